/**
 * Each sentence of the promises 1 to 30 that names a boundary case: the least and the greatest that is
 * taken, the next beyond on each side, the empty and the full, and which refusal comes first.
 */
public final class PromiseEdgesTest {
    static final int NONE = Caller.NONE, BAD = Caller.BAD, STATE = Caller.STATE, FULL = Caller.FULL;
    static final int LOW = Caller.LOW, HIGH = Caller.HIGH;
    static final String SIX = "c1;e001;e001;e001;e001;e001;e001;";
    static final String[] ALL_THAT_NEED_A_COMPLEX = {"edge 0 0 1", "face 1", "drawn 0 1", "rank 1 0", "holes 0 0", "twist 0 0",
        "whole 0 0", "length 0 0 0", "share 0 0", "trees 1 0", "minors 0", "image 0"};
    static final String[] ALL_THAT_NEED_A_CELL = {"weigh 1 0 1", "weigh 2 0 1", "drop 1 0", "drop 2 0", "put 0 0 0",
        "bound 0 0 0", "cell 1 0 0", "cell 2 0 0", "as 0 0 0", "as 1 0 0", "as 2 0 0", "table 1 0 0", "table 2 0 0",
        "near 0 0 0", "near 1 0 0", "near 2 0 0", "chain 0 0", "ends 0 0", "part 0 0 0 0"};

    public static void main(String[] args) throws ReflectiveOperationException {
        Caller.runAll(PromiseEdgesTest.class);
    }

    /** A call with a number in place of each X: from the least to the greatest it is taken, beyond it is BAD. */
    static void taken(String text, String call, int least, int greatest) {
        for (int i : new int[] {least, greatest}) {
            Caller o = Caller.reads(text).chain(0, 1);
            String answer = o.answer(call.replace("X", String.valueOf(i)));
            Caller.same(text + " " + call + " of " + i + " is taken", !answer.equals("" + BAD) && !answer.contains("ception"), true);
        }
        for (int i : new int[] {least - 1, greatest + 1, -1, LOW, HIGH}) {
            if (i < least || i > greatest) {
                Caller.reads(text).chain(0, 1).is(call.replace("X", String.valueOf(i)), BAD);
            }
        }
    }

    // ---- what is told

    @Caller.Says("No COMPLEX.")
    static void promise01() {
        new Caller().all(0, "count 0", "count 1", "count 2", "count 3", "count 4", "fault").is("undo", STATE)
            .all(STATE, ALL_THAT_NEED_A_COMPLEX).all(BAD, ALL_THAT_NEED_A_CELL).is("restore 0", STATE).is("restore 1", STATE)
            .all(0, "count 0", "count 1", "count 2", "count 3", "count 4", "fault");
    }

    @Caller.Says("A byte (0 to 255) comes behind the tape: how many it has. BAD; FULL.")
    static void promise02() {
        Caller o = new Caller().is("feed 0", 1).is("feed 255", 2).all(BAD, "feed -1", "feed 256", "feed " + LOW, "feed " + HIGH);
        o.is("count 4", 2);
        for (int i = 3; i <= 90; i++) {
            o.is("feed 97", i);
        }
        o.all(FULL, "feed 97", "feed 0", "feed 255").all(BAD, "feed -1", "feed 256").is("count 4", 90);
    }

    @Caller.Says("The tape, empty then, is read: how many cells there are.")
    static void promise03HowMany() {
        new Caller().tape("c1;").is("complex", 1).is("count 4", 0).is("complex", -1000100).is("count 0", 1);
        new Caller().tape("c5;" + SIX.substring(3) + "f1a;f1b;f1c;f1d;").is("complex", 15).is("count 4", 0).is("feed 99", 1);
    }

    @Caller.Says("-1000100 less the place of a FAULT: all stays, but the tape is empty then, and fault() tells this one.")
    static void promise03Fault() {
        new Caller().is("complex", -1000100).is("fault", 1).is("count 0", 0).is("edge 0 0 1", STATE);
        Caller o = Caller.reads("c2;e012;f3aA;").chain(1, 7).is("image 1", 1).chain(1, 8).tape("c1;e001;e00");
        String before = o.cellsAndChains();
        o.is("count 4", 11).is("complex", -1000111).is("count 4", 0).is("fault", 1).is("count 3", 2);
        Caller.same("all that stays", o.cellsAndChains(), before);
        o.tape("c1;e001;f2b;").is("complex", -1000110).is("fault", 2).is("undo", 1).is("chain 1 0", 7);
        o.is("restore 1", 1).is("chain 1 0", 7).tape("c0").is("complex", -1000101).is("count 0", 2);
    }

    @Caller.Says("The number of the latest FAULT; 0 before one.")
    static void promise04() {
        Caller o = new Caller().is("fault", 0).tape("c1;").is("fault", 0).is("complex", 1).is("fault", 0);
        o.tape("c1;e").is("fault", 0).is("complex", -1000104).is("fault", 1).tape("c9").is("fault", 1);
        o.is("complex", -1000101).is("fault", 2).tape("c1;").is("complex", 1).is("fault", 2);
        o.tape(SIX + "e").is("complex", -1000133).is("fault", 3).is("fault", 3).is("edge 0 0 9", BAD).is("fault", 3);
        o.is("complex", -1000100).is("fault", 1);
    }

    @Caller.Says("The latest ACT is undone: how many can be undone yet. STATE: none.")
    static void promise05() {
        new Caller().is("undo", STATE).tape("c1;").is("undo", STATE).is("complex", 1).is("undo", STATE);
        Caller o = Caller.reads("c1;").is("edge 0 0 1", 0).is("edge 0 0 2", 1).is("undo", 1).is("count 1", 1).is("undo", 0)
            .is("count 1", 0).is("undo", STATE).is("undo", STATE);
        for (int i = 0; i < 5; i++) {
            o.does("edge 0 0 1");
        }
        for (int i = 0; i < 4; i++) {
            o.does("drop 1 0");
        }
        o.is("count 3", 8);
        for (int left = 7; left >= 0; left--) {
            o.is("undo", left);
        }
        o.is("undo", STATE).is("count 1", 1).is("edge 0 0 3", 1).is("undo", 0).is("undo", STATE).is("count 1", 1);
    }

    // ---- what is done

    @Caller.Says("The WEIGHT of an EDGE (dim = 1), a FACE (2) is w: what it was. BAD (no COMPLEX, too).")
    static void promise06() {
        String text = "c2;e103;e002;f1bb;f2b;f3B;";
        taken(text, "weigh X 0 1", 1, 2);
        taken(text, "weigh 1 X 1", 0, 1);
        taken(text, "weigh 2 X 1", 0, 2);
        taken(text, "weigh 1 0 X", 1, 3);
        taken(text, "weigh 2 0 X", 1, 3);
        Caller.reads(text).is("weigh 1 0 1", 3).is("weigh 1 0 3", 1).is("weigh 1 1 2", 2).is("weigh 2 2 1", 3)
            .is("weigh 2 2 1", 1).is("cell 1 0 0", 3).is("cell 1 1 0", 2).is("cell 2 2 0", 1).is("cell 2 0 0", 1);
        Caller.reads("c1;").all(BAD, "weigh 1 0 1", "weigh 2 0 1");
        new Caller().all(BAD, "weigh 1 0 1", "weigh 2 0 1");
    }

    @Caller.Says("An EDGE more: its number. BAD; STATE: no COMPLEX (ahead of BAD); FULL: 6.")
    static void promise07() {
        taken("c5;", "edge X 0 1", 0, 4);
        taken("c5;", "edge 0 X 1", 0, 4);
        taken("c1;", "edge X 0 1", 0, 0);
        taken("c1;", "edge 0 X 1", 0, 0);
        taken("c1;", "edge 0 0 X", 1, 3);
        new Caller().all(STATE, "edge 0 0 1", "edge -1 9 9", "edge 0 0 0", "edge 5 0 4");
        Caller o = Caller.reads("c2;");
        for (int e = 0; e < 6; e++) {
            o.is("edge " + e % 2 + " 1 " + (1 + e % 3), e);
        }
        o.all(FULL, "edge 0 0 1", "edge 1 1 3").all(BAD, "edge 2 0 1", "edge 0 2 1", "edge -1 0 1", "edge 0 0 0", "edge 0 0 4");
        o.is("count 1", 6).is("count 3", 6).is("cell 1 5 1", 1).is("cell 1 5 2", 1).is("cell 1 5 0", 3);
    }

    @Caller.Says("A FACE more, of WEIGHT w, its WORD being the tape, that is empty then in any case: its number. BAD (no such WORD, too); STATE: no COMPLEX (ahead of BAD); FULL: 4.")
    static void promise08() {
        Caller o = new Caller().all(STATE, "face 1", "face 0").tape("a").is("face 1", STATE).is("count 4", 0).tape("~")
            .is("face 9", STATE).is("count 4", 0).tape("c2;e001;e011;").is("complex", 4);
        for (String no : new String[] {"", "aaaaa", "b", "bb", "ba", "c", "C", "a;", "1a", "a,", "f1a;", " a"}) {
            o.tape(no).is("face 1", BAD).is("count 4", 0).is("count 2", 0);
        }
        for (int w : new int[] {0, 4, -1, LOW, HIGH}) {
            o.tape("a").is("face " + w, BAD).is("count 4", 0);
        }
        o.is("count 3", 0).tape("a").is("face 1", 0).tape("abB").is("face 3", 1).tape("bBbB").is("face 2", 2).is("face 1", BAD);
        o.tape("Aa").is("face 1", 3).is("count 2", 4).is("count 3", 4);
        o.tape("a").is("face 1", FULL).is("count 4", 0).tape("bb").is("face 1", BAD).is("count 4", 0).tape("a")
            .is("face 4", BAD).is("count 4", 0).is("face 1", BAD).is("count 2", 4).is("count 3", 4);
        o.is("cell 2 1 0", 3).is("cell 2 1 1", 3).is("cell 2 1 12", 'B').is("cell 2 1 13", NONE).is("cell 2 2 13", 'B');
        Caller p = Caller.reads("c1;e001;e001;").chain(0, 5, 6).chain(1, 7, 8).chain(2, 9, -9);
        for (int f = 0; f < 4; f++) {
            p.tape("abAB").is("face 1", f).chainIs(0, 5, 6).chainIs(1, 7, 8).chainIs(2, 9, -9);
        }
        p.is("cell 2 3 10", 'a').is("cell 2 3 13", 'B').is("cell 2 0 10", 'a').is("cell 1 0 0", 1);
    }

    @Caller.Says("An EDGE (dim = 1; in all CHAINS, too), a FACE (2) is gone, those behind it have numbers that are 1 less (in WORDS, too): how many there are then.")
    static void promise09() {
        String text = "c2;e011;e112;e003;e011;f1aD;f2cc;";
        Caller first = Caller.reads("c2;e112;e011;e003;e011;f1bD;f2cc;").chain(0, 1, 2, 3, 4).chain(2, 5, 6, 7, 8);
        first.is("drop 1 0", 3).chainIs(0, 2, 3, 4).chainIs(1, 0, 0, 0).chainIs(2, 6, 7, 8);
        first.is("cell 1 0 1", 0).is("cell 1 0 2", 1).is("cell 1 2 1", 0).is("cell 1 2 2", 1).is("cell 1 1 0", 3);
        first.is("cell 2 0 10", 'a').is("cell 2 0 11", 'C').is("cell 2 1 10", 'b').is("cell 2 1 11", 'b').is("cell 2 1 12", NONE);
        Caller middle = Caller.reads(text).chain(1, 9, -9, 8, -8).is("drop 1 1", 3).chainIs(1, 9, 8, -8);
        middle.is("cell 2 0 10", 'a').is("cell 2 0 11", 'C').is("cell 2 1 10", 'b').is("cell 1 1 0", 3).is("cell 1 0 0", 1);
        Caller last = Caller.reads("c1;e001;e002;e003;f1a;f2bB;").chain(0, 1, 2, 3).is("drop 1 2", 2).chainIs(0, 1, 2);
        last.is("cell 2 1 11", 'B').is("cell 1 2 0", BAD).is("edge 0 0 1", 2).chainIs(0, 1, 2, 0);
        Caller faces = Caller.reads("c1;e001;f1a;f2aa;f3aaa;f1aaaa;").is("drop 2 1", 3).is("cell 2 1 1", 3).is("cell 2 1 0", 3);
        faces.is("cell 2 2 1", 4).is("drop 2 2", 2).is("cell 2 1 1", 3).is("drop 2 0", 1).is("cell 2 0 1", 3).is("drop 2 0", 0);
        faces.is("drop 2 0", BAD).is("drop 1 0", 0).is("drop 1 0", BAD).is("count 0", 1).is("edge 0 0 2", 0);
    }

    @Caller.Says("those behind it have numbers that are 1 less (in WORDS, too)")
    static void promise09Behind() {
        Caller o = Caller.reads("c5;e011;e122;e233;e341;e402;e443;f1F;").is("drop 1 0", 5);
        for (int e = 0; e < 4; e++) {
            o.is("cell 1 " + e + " 0", (e + 1) % 3 + 1).is("cell 1 " + e + " 1", e + 1).is("cell 1 " + e + " 2", (e + 2) % 5);
        }
        o.is("cell 1 4 0", 3).is("cell 1 4 1", 4).is("cell 1 4 2", 4).is("cell 1 5 0", BAD).is("cell 2 0 10", 'E');
        o.is("drop 1 3", 4).is("cell 1 2 1", 3).is("cell 1 3 1", 4).is("cell 1 3 2", 4).is("cell 2 0 10", 'D').is("cell 2 0 11", NONE);
        Caller words = Caller.reads("c1;e001;e001;e001;e001;f1bbbb;f1c;f1dDcC;f1D;").is("drop 1 0", 3);
        String due = "aaaabcCbBC";
        int at = 0;
        for (int f = 0; f < 4; f++) {
            for (int k = 0; k < (f % 2 == 0 ? 4 : 1); k++) {
                words.is("cell 2 " + f + " 1" + k, due.charAt(at));
                at++;
            }
        }
        Caller few = Caller.reads("c1;e001;e001;f1b;f1B;f1bb;f1BB;").is("drop 1 0", 1);
        few.is("cell 2 0 10", 'a').is("cell 2 1 10", 'A').is("cell 2 2 11", 'a').is("cell 2 3 11", 'A').is("table 2 0 3", -2);
    }

    @Caller.Says("is gone")
    static void promise09Gone() {
        Caller o = Caller.reads("c2;e002;e013;").chain(0, 1, 9).chain(1, 0, -9).is("ends 0 1", 9).is("drop 1 1", 1);
        o.is("ends 0 0", 0).is("ends 0 1", 0).is("ends 1 1", 0).is("whole 0 0", 1).all(0, "near 0 0 0", "near 0 0 1", "near 0 1 1");
        o.is("rank 1 0", 0).is("holes 0 0", 2).is("holes 1 0", 1).fraction("length 0 3", 1, 2).is("share 1 0", STATE);
        o.is("trees 1 0", 1).is("trees 1 1", 1).is("minors 0", 1).is("minors 1", 1).fraction("part 0 2 0", 1, 1).is("near 1 0 0", 0);
        o.is("drawn 1 2", 1).is("drop 1 0", 0).is("whole 0 2", 1).is("share 0 0", STATE).is("drawn 0 2", 0);
        Caller p = Caller.reads("c1;e001;e002;f3a;f2ab;f1bbb;").chain(0, 1, 1).is("drop 2 2", 2).is("drop 2 1", 1);
        p.is("near 2 0 0", 3).is("near 2 0 1", 0).is("near 2 1 1", 0).is("rank 2 0", 1).is("holes 2 0", 0).is("twist 1 0", 1);
        p.is("whole 0 1", 0).is("whole 0 2", NONE).fraction("part 0 0 1", 0, 1).fraction("part 0 2 1", 1, 1).is("trees 2 1", 3);
        p.is("minors 2", 3).is("twist 2 0", BAD).is("drop 2 0", 0).is("near 2 0 0", 0).is("trees 2 1", 1).is("rank 2 0", 0);
        p.fraction("part 0 0 0", 0, 1).is("drop 1 1", 1).is("bound 0 0 0", BAD).tape("a").is("face 2", 0).is("bound 0 0 -1", 0);
        Caller q = Caller.reads("c1;e001;e001;").chain(2, 4, 5).is("drop 1 1", 1).tape("aA").is("face 1", 0).is("bound 2 0 9", 1);
        q.is("edge 0 0 1", 1).chainIs(2, 4, 0).is("bound 2 0 9", 1);
    }

    @Caller.Says("BAD (no COMPLEX, too); STATE: an EDGE that is in some WORD.")
    static void promise09Refused() {
        String text = "c2;e101;e112;e003;f1aA;f2cc;";
        taken(text, "drop X 1", 1, 2);
        taken(text, "drop 1 X", 0, 2);
        taken(text, "drop 2 X", 0, 1);
        new Caller().all(BAD, "drop 1 0", "drop 2 0");
        Caller.reads("c1;").all(BAD, "drop 1 0", "drop 2 0");
        Caller o = Caller.reads(text).all(STATE, "drop 1 0", "drop 1 2").is("count 1", 3).is("count 3", 0).is("drop 2 0", 1);
        o.is("drop 1 2", STATE).is("drop 1 0", 2).is("drop 1 1", STATE).is("drop 2 0", 0).is("drop 1 1", 1).is("drop 1 0", 0);
        Caller.reads("c1;e001;e001;e001;e001;e001;f1aBcD;").all(STATE, "drop 1 0", "drop 1 1", "drop 1 2", "drop 1 3").is("drop 1 4", 4);
    }

    @Caller.Says("The number of an EDGE in a CHAIN is v (-9 to 9): what it was. BAD (no COMPLEX, too).")
    static void promise10() {
        taken(SIX, "put X 0 1", 0, 2);
        taken(SIX, "put 0 X 1", 0, 5);
        taken(SIX, "put 0 0 X", -9, 9);
        Caller.reads(SIX).is("put 0 5 -9", 0).is("put 0 5 9", -9).is("put 0 5 9", 9).is("put 0 5 0", 9).chainIs(0, 0, 0, 0, 0, 0, 0);
        new Caller().is("put 0 0 0", BAD);
        Caller.reads("c1;").is("put 0 0 0", BAD);
    }

    @Caller.Says("The BOUNDARY of a FACE, t times (-9 to 9), comes to a CHAIN: how many EDGES have other numbers than 0 in it. BAD (no COMPLEX, too); FULL: a number would be beyond -9 to 9.")
    static void promise11() {
        String text = "c1;e001;e001;e001;f1aB;f1bB;f1aaaa;f1bCCC;";
        taken(text, "bound X 0 1", 0, 2);
        taken(text, "bound 0 X 1", 0, 3);
        taken(text, "bound 1 0 X", -9, 9);
        Caller o = Caller.reads(text).is("bound 0 0 9", 2).chainIs(0, 9, -9, 0).is("bound 0 0 1", FULL).chainIs(0, 9, -9, 0);
        o.is("bound 0 0 -9", 0).is("bound 0 0 -9", 2).chainIs(0, -9, 9, 0).is("bound 0 0 -1", FULL).is("bound 0 0 0", 2);
        o.is("count 3", 4).is("bound 0 1 9", 2).is("bound 0 1 -9", 2);
        Caller p = Caller.reads(text).is("bound 1 2 2", 1).is("bound 1 2 1", FULL).chainIs(1, 8, 0, 0).does("put 1 0 1")
            .is("bound 1 2 2", 1).chainIs(1, 9, 0, 0).is("bound 1 2 -4", 1).chainIs(1, -7, 0, 0).is("bound 1 2 -1", FULL)
            .does("put 1 0 -1").is("bound 1 2 -2", 1).chainIs(1, -9, 0, 0).is("bound 1 2 -1", FULL).chainIs(1, -9, 0, 0);
        p.is("bound 2 3 3", 2).chainIs(2, 0, 3, -9).is("bound 2 3 1", FULL).chainIs(2, 0, 3, -9).is("bound 2 3 -6", 2)
            .chainIs(2, 0, -3, 9).is("bound 2 3 -1", FULL).is("bound 2 3 9", FULL).chainIs(2, 0, -3, 9).is("bound 2 3 1", 2)
            .is("bound 2 3 2", 0).chainIs(2, 0, 0, 0);
        p.is("bound 2 2 3", FULL).is("bound 2 2 -9", FULL).is("bound 2 2 10", BAD).chainIs(2, 0, 0, 0);
        new Caller().is("bound 0 0 0", BAD);
        Caller.reads("c1;e001;").is("bound 0 0 0", BAD);
    }

    @Caller.Says("A CHAIN is DRAWN by a SEED (1 to 999999): how many EDGES have other numbers than 0 in it. BAD; STATE: no COMPLEX (ahead of BAD).")
    static void promise12() {
        taken(SIX, "drawn X 1", 0, 2);
        taken(SIX, "drawn 0 X", 1, 999999);
        new Caller().all(STATE, "drawn 0 1", "drawn 3 1", "drawn 0 0", "drawn 0 1000000");
        Caller.reads("c5;").is("drawn 0 1", 0).is("drawn 2 999999", 0).is("count 3", 2).is("drawn 0 0", BAD).is("count 3", 2);
        Caller.reads("c1;e001;e001;e001;e001;e001;").is("drawn 2 1", 4).chainIs(2, 2, -2, -1, 8, 0).chainIs(0, 0, 0, 0, 0, 0);
        Caller o = Caller.reads(SIX).chain(2, 9, 8, 7, 6, 5, 4);
        o.is("drawn 0 1", 5).chainIs(0, 2, -2, -1, 8, 0, 4).chainIs(1, 0, 0, 0, 0, 0, 0).chainIs(2, 9, 8, 7, 6, 5, 4);
        o.is("drawn 1 1", 5).chainIs(1, 2, -2, -1, 8, 0, 4).chainIs(2, 9, 8, 7, 6, 5, 4).is("drawn 2 1", 5).is("cell 1 5 0", 1);
    }

    // ---- cells

    @Caller.Says("Of an EDGE (dim = 1), a FACE (2): 0 WEIGHT, 1 FROM (how many letters), 2 TO (the POINT at which its WORD begins), 10 and k: letter k (0 to 3) of its WORD (a code; NONE: not so many; of an EDGE: BAD). BAD (no COMPLEX, too).")
    static void promise13() {
        String text = "c2;e103;e112;f1aA;f3aAbb;f2b;";
        taken(text, "cell X 0 0", 1, 2);
        taken(text, "cell 1 X 0", 0, 1);
        taken(text, "cell 2 X 0", 0, 2);
        taken(text, "cell 1 0 X", 0, 2);
        Caller o = Caller.reads("c2;e013;e112;f1aA;f3Aab;f2b;f1bbbb;");
        o.is("cell 1 0 0", 3).is("cell 1 0 1", 0).is("cell 1 0 2", 1).all(BAD, "cell 1 0 3", "cell 1 0 9", "cell 1 0 10",
            "cell 1 0 13", "cell 1 0 14");
        o.is("cell 2 0 2", 0).is("cell 2 1 2", 1).is("cell 2 2 2", 1).is("cell 2 0 1", 2).is("cell 2 1 1", 3).is("cell 2 2 1", 1);
        o.is("cell 2 2 10", 'b').all(NONE, "cell 2 2 11", "cell 2 2 12", "cell 2 2 13", "cell 2 0 12", "cell 2 1 13");
        o.is("cell 2 1 12", 'b').is("cell 2 3 13", 'b').all(BAD, "cell 2 0 -1", "cell 2 0 3", "cell 2 0 9", "cell 2 0 14",
            "cell 2 0 " + LOW, "cell 2 0 " + HIGH, "cell 2 4 10");
        new Caller().all(BAD, "cell 1 0 0", "cell 2 0 0", "cell 2 0 10");
    }

    @Caller.Says("A cell (of dim 0 to 2) is taken as one of a KIND (0 to 5): the cell's number; NONE: it is not of that. BAD (no COMPLEX, too).")
    static void promise14() {
        String text = "c3;e101;e001;f1b;f1bB;f1aA;f1bb;";
        taken(text, "as X 0 0", 0, 2);
        taken(text, "as 0 X 0", 0, 2);
        taken(text, "as 1 X 0", 0, 1);
        taken(text, "as 2 X 0", 0, 3);
        taken(text, "as 0 0 X", 0, 5);
        Caller.reads(text).is("as 0 2 1", 2).is("as 0 2 2", NONE).is("as 1 1 3", 1).is("as 1 0 3", NONE).is("as 2 2 5", 2)
            .is("as 2 3 5", NONE).is("as 2 3 4", 3).is("as 1 1 5", NONE).is("as 2 1 3", NONE).is("as 0 0 5", NONE);
        new Caller().all(BAD, "as 0 0 0", "as 0 0 1", "as 1 0 0");
        Caller.reads("c1;").is("as 0 0 0", 0).all(BAD, "as 1 0 0", "as 2 0 0");
    }

    @Caller.Says("TABLE 1, 2: row i, column j. BAD (no COMPLEX, too).")
    static void promise15() {
        String text = "c3;e101;e121;e001;e001;f1c;f1aA;";
        taken(text, "table X 0 0", 1, 2);
        taken(text, "table 1 X 0", 0, 2);
        taken(text, "table 1 0 X", 0, 3);
        taken(text, "table 2 X 0", 0, 3);
        taken(text, "table 2 0 X", 0, 1);
        new Caller().all(BAD, "table 1 0 0", "table 2 0 0");
    }

    @Caller.Says("NEIGHBOURS (which = 0 to 2): row i, column j. BAD (no COMPLEX, too).")
    static void promise16() {
        String text = "c3;e101;e121;e001;e001;f1c;f1aA;";
        taken(text, "near X 0 0", 0, 2);
        taken(text, "near 0 X 0", 0, 2);
        taken(text, "near 0 0 X", 0, 2);
        taken(text, "near 1 X 0", 0, 3);
        taken(text, "near 1 0 X", 0, 3);
        taken(text, "near 2 X 0", 0, 3);
        taken(text, "near 2 0 X", 0, 3);
        new Caller().all(BAD, "near 0 0 0", "near 1 0 0", "near 2 0 0");
    }

    @Caller.Says("RANK of TABLE 1, 2 by p (0: over fractions; 2, 3, 5, 7). BAD; STATE: no COMPLEX (ahead of BAD).")
    static void promise17() {
        taken(SIX, "rank X 0", 1, 2);
        Caller o = Caller.reads("c2;e011;f1aA;");
        for (int p = -8; p <= 14; p++) {
            boolean field = p == 0 || p == 2 || p == 3 || p == 5 || p == 7;
            o.is("rank 1 " + p, field ? 1 : BAD).is("rank 2 " + p, field ? 0 : BAD);
        }
        o.all(BAD, "rank 1 " + LOW, "rank 1 " + HIGH);
        new Caller().all(STATE, "rank 1 0", "rank 0 0", "rank 3 0", "rank 1 1", "rank 9 9");
    }

    @Caller.Says("HOLES of dimension 0 to 2, by p as told. BAD; STATE: no COMPLEX (ahead of BAD).")
    static void promise18() {
        taken(SIX, "holes X 0", 0, 2);
        Caller o = Caller.reads("c1;e001;f1aA;");
        for (int p = -8; p <= 14; p++) {
            boolean field = p == 0 || p == 2 || p == 3 || p == 5 || p == 7;
            o.all(field ? 1 : BAD, "holes 0 " + p, "holes 1 " + p, "holes 2 " + p);
        }
        new Caller().all(STATE, "holes 0 0", "holes -1 0", "holes 3 0", "holes 0 1", "holes 9 9");
    }

    @Caller.Says("TWIST k (1 on) of a set of FACES (bits); NONE: not so many; k = 0: TWISTED. BAD (a FACE that there is not, too); STATE: no COMPLEX (ahead of BAD).")
    static void promise19() {
        taken("c1;e001;f1a;f1aa;f1aaa;f1aaaa;", "twist X 0", 0, 15);
        taken("c1;e001;f1a;f1aa;f1aaa;", "twist X 0", 0, 7);
        taken("c1;e001;f1a;", "twist X 0", 0, 1);
        taken("c1;e001;", "twist X 0", 0, 0);
        taken("c1;", "twist X 1", 0, 0);
        taken("c1;e001;f1a;", "twist 1 X", 0, HIGH);
        Caller.reads("c1;e001;e001;f1aaaa;f1bb;").is("twist 3 0", 8).is("twist 3 1", 2).is("twist 3 2", 4).all(NONE, "twist 3 3",
            "twist 3 4", "twist 3 5", "twist 3 " + HIGH, "twist 1 2", "twist 0 1").is("twist 0 0", 1).all(BAD, "twist 3 -1",
            "twist 4 1", "twist 3 " + LOW, "twist 7 0");
        new Caller().all(STATE, "twist 0 0", "twist 1 0", "twist -1 0", "twist 0 -1", "twist 9 9");
    }

    // ---- chains

    @Caller.Says("The number of an EDGE in a CHAIN. BAD (no COMPLEX, too).")
    static void promise20() {
        taken(SIX, "chain X 0", 0, 2);
        taken(SIX, "chain 0 X", 0, 5);
        taken("c1;e001;", "chain 2 X", 0, 0);
        new Caller().is("chain 0 0", BAD);
        Caller.reads("c1;").is("chain 0 0", BAD);
    }

    @Caller.Says("The BOUNDARY of a CHAIN at a POINT. BAD (no COMPLEX, too).")
    static void promise21() {
        taken("c5;e041;", "ends X 0", 0, 2);
        taken("c5;e041;", "ends 0 X", 0, 4);
        taken("c1;e001;", "ends 0 X", 0, 0);
        new Caller().is("ends 0 0", BAD);
    }

    @Caller.Says("Of a CHAIN: 0 whether it is a CYCLE (1, 0), 1 whether it BOUNDS, 2 its ORDER (NONE: it has none). BAD; STATE: no COMPLEX (ahead of BAD).")
    static void promise22() {
        taken("c2;e011;f1aA;", "whole X 0", 0, 2);
        taken("c2;e011;f1aA;", "whole 0 X", 0, 2);
        Caller.reads("c2;e011;f1aA;").chain(0, 1).is("whole 0 0", 0).is("whole 0 1", 0).is("whole 0 2", NONE)
            .is("whole 1 0", 1).is("whole 1 1", 1).is("whole 1 2", 1);
        Caller.reads("c1;").all(1, "whole 0 0", "whole 1 1", "whole 2 2");
        new Caller().all(STATE, "whole 0 0", "whole -1 0", "whole 3 0", "whole 0 3", "whole 0 -1");
    }

    @Caller.Says("A PART (0 to 2) of a CHAIN at an EDGE: above (what = 0), below (1). BAD (no COMPLEX, too).")
    static void promise23() {
        taken(SIX, "part X 0 0 0", 0, 2);
        taken(SIX, "part 0 X 0 0", 0, 2);
        taken(SIX, "part 0 0 X 0", 0, 5);
        taken(SIX, "part 0 0 0 X", 0, 1);
        taken("c1;e001;", "part 0 0 X 1", 0, 0);
        new Caller().all(BAD, "part 0 0 0 0", "part 0 0 0 1");
        Caller.reads("c1;").is("part 0 0 0 0", BAD);
    }

    @Caller.Says("LENGTH of a PART (0 to 2), of all (3) of a CHAIN: above (what = 0), below (1). BAD; STATE: no COMPLEX (ahead of BAD).")
    static void promise24() {
        taken("c1;e001;", "length X 0 0", 0, 2);
        taken("c1;e001;", "length 0 X 0", 0, 3);
        taken("c1;e001;", "length 0 0 X", 0, 1);
        Caller.reads("c1;").fraction("length 0 0", 0, 1).fraction("length 1 1", 0, 1).fraction("length 2 2", 0, 1)
            .fraction("length 0 3", 0, 1);
        new Caller().all(STATE, "length 0 0 0", "length -1 0 0", "length 3 0 0", "length 0 4 0", "length 0 0 2");
    }

    @Caller.Says("LENGTH of a PART by that of all (a fraction in lowest terms), above and below as floats, by one another, times 1000 (in floats), cut to a whole number. BAD; STATE: no COMPLEX (ahead of BAD), or the CHAIN is 0.")
    static void promise25() {
        taken("c1;e001;", "share X 0", 0, 2);
        taken("c1;e001;", "share 0 X", 0, 2);
        new Caller().all(STATE, "share 0 0", "share -1 0", "share 3 0", "share 0 3", "share 0 -1");
        Caller.reads("c1;").all(STATE, "share 0 0", "share 2 2").all(BAD, "share 0 3", "share 3 0");
        Caller o = Caller.reads("c1;e001;").is("share 0 2", STATE).all(BAD, "share 0 3", "share 0 -1", "share 3 2", "share -1 2");
        o.does("put 0 0 1").is("share 0 0", 0).is("share 0 1", 0).is("share 0 2", 1000).is("share 1 2", STATE);
        o.does("put 0 0 0").is("share 0 2", STATE).does("put 0 0 -9").is("share 0 2", 1000);
        Caller p = Caller.reads("c2;e011;e001;").chain(0, 1, 9).chain(1, 9, 1).chain(2, 1, 1);
        p.is("share 0 1", 12).is("share 0 2", 987).is("share 1 1", 987).is("share 1 2", 12).is("share 2 1", 500);
        Caller q = Caller.reads("c3;e012;e121;e002;e003;").chain(0, 9, 1, 9, 2);
        q.fraction("length 0 2", 251, 6).fraction("length 0 3", 250, 3).is("share 0 2", 501).is("share 0 1", 498);
    }

    // ---- trees

    @Caller.Says("TREES of dimension 1, 2: how many (what = 0), what they count, together (1). BAD; STATE: no COMPLEX (ahead of BAD).")
    static void promise26() {
        taken("c1;e001;", "trees X 0", 1, 2);
        taken("c1;e001;", "trees 1 X", 0, 1);
        taken("c1;e001;", "trees 2 X", 0, 1);
        new Caller().all(STATE, "trees 1 0", "trees 0 0", "trees 3 0", "trees 1 2", "trees 9 9");
    }

    @Caller.Says("MINORS of NEIGHBOURS (0 to 2). BAD; STATE: no COMPLEX (ahead of BAD).")
    static void promise27() {
        taken("c1;", "minors X", 0, 2);
        new Caller().all(STATE, "minors 0", "minors 2", "minors -1", "minors 3", "minors " + LOW);
    }

    @Caller.Says("An IMAGE (0, 1) is kept of the COMPLEX and all CHAINS: 1. BAD; STATE: no COMPLEX.")
    static void promise28() {
        taken("c1;", "image X", 0, 1);
        new Caller().all(STATE, "image 0", "image 1").all(BAD, "image -1", "image 2", "image " + LOW, "image " + HIGH)
            .all(STATE, "restore 0", "restore 1");
        Caller o = Caller.reads("c1;e001;").chain(2, 4).is("image 0", 1).is("restore 1", STATE).chain(2, 5).is("image 1", 1);
        o.chain(2, 6).is("count 3", 3).is("restore 0", 1).is("chain 2 0", 4).is("restore 1", 1).is("chain 2 0", 5);
        o.chain(2, 7).is("image 0", 1).is("image 0", 1).chain(2, 8).is("restore 0", 1).is("chain 2 0", 7).is("restore 1", 1)
            .is("chain 2 0", 5);
        o.tape("c5;").is("complex", 5).is("image 1", 1).is("restore 0", 1).is("count 0", 1).is("restore 1", 1).is("count 0", 5)
            .is("count 1", 0);
    }

    @Caller.Says("All is as an IMAGE kept it (no ACT can be undone then): 1. BAD; STATE: none was kept.")
    static void promise29() {
        Caller o = Caller.reads("c2;e012;e111;f2bb;").chain(0, 1, 2).chain(1, 3, 4).chain(2, 5, 6).all(STATE, "restore 0", "restore 1")
            .all(BAD, "restore -1", "restore 2", "restore " + LOW, "restore " + HIGH).is("image 1", 1);
        String kept = o.cellsAndChains();
        for (String act : new String[] {"weigh 1 0 3", "weigh 2 0 3", "edge 0 0 1", "drop 1 0", "drop 2 0", "put 0 0 9",
            "bound 1 0 1", "drawn 2 5", "undo"}) {
            o.does(act).is("restore 0", STATE).is("restore 1", 1).is("count 3", 0).is("undo", STATE);
            Caller.same("what is there behind " + act, o.cellsAndChains(), kept);
        }
        o.tape("bB").is("face 1", 1).is("restore 1", 1).is("count 2", 1).is("undo", STATE).tape("c1;").is("complex", 1)
            .is("restore 1", 1);
        Caller.same("what is there behind another COMPLEX", o.cellsAndChains(), kept);
        o.chain(0, 9).is("count 3", 1).is("undo", 0);
    }

    @Caller.Says("How many: 0 POINTS, 1 EDGES, 2 FACES, 3 ACTS that can be undone, 4 bytes on the tape. BAD.")
    static void promise30() {
        new Caller().all(0, "count 0", "count 1", "count 2", "count 3", "count 4").all(BAD, "count -1", "count 5",
            "count " + LOW, "count " + HIGH);
        Caller o = Caller.reads("c5;" + SIX.substring(3) + "f1a;f1b;f1c;f1d;");
        for (int i = 0; i < 9; i++) {
            o.does("put 0 0 " + i);
        }
        for (int i = 0; i < 91; i++) {
            o.does("feed 0");
        }
        o.is("count 0", 5).is("count 1", 6).is("count 2", 4).is("count 3", 8).is("count 4", 90).all(BAD, "count -1", "count 5");
    }
}
