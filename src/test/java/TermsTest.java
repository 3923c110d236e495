/**
 * Each sentence of the document's first paragraphs and of its sections 1 and 2 that names a boundary
 * case: the least and the greatest that is taken, the next beyond, the empty and the full.
 */
public final class TermsTest {
    static final int NONE = Caller.NONE, BAD = Caller.BAD, STATE = Caller.STATE, FULL = Caller.FULL;
    static final int LOW = Caller.LOW, HIGH = Caller.HIGH;
    /** One POINT and six LOOPS; its last byte is the 33rd. */
    static final String SIX = "c1;e001;e001;e001;e001;e001;e001;";

    public static void main(String[] args) throws ReflectiveOperationException {
        Caller.runAll(TermsTest.class);
    }

    /** A text that is no COMPLEX, where its FAULT is and which it is. */
    static void fault(String text, int place, int number) {
        new Caller().tape(text).is("complex", -1000100 - place).is("fault", number).all(0, "count 0", "count 4");
    }

    /** A text that is a COMPLEX of so many cells. */
    static void good(String text, int points, int edges, int faces) {
        new Caller().tape(text).is("complex", points + edges + faces).is("fault", 0)
            .is("count 0", points).is("count 1", edges).is("count 2", faces);
    }

    /** What face answers of a WORD. */
    static Caller sews(Caller o, String word, int want) {
        return o.tape(word).is("face 1", want).is("count 4", 0);
    }

    // ---- what it is, the face, the terms

    @Caller.Says("An object is used for at most 512 calls after it has been made")
    static void theLastOf512Calls() {
        Caller o = Caller.reads("c1;e001;").is("put 0 0 1", 0);
        for (int call = 11; call <= 511; call++) {
            o.is("put 0 0 " + call % 10, call == 11 ? 1 : (call - 1) % 10);
        }
        o.is("undo", 7);
        Caller p = Caller.reads("c1;e001;");
        for (int call = 10; call <= 511; call++) {
            p.is("drawn 1 " + call, (call * 16807L % 2147483647L) % 19 == 9 ? 0 : 1);
        }
        p.is("count 3", 8);
        Caller q = new Caller();
        for (int call = 1; call <= 510; call++) {
            q.is("feed 99", call <= 90 ? call : FULL);
        }
        q.is("complex", -1000101).is("count 4", 0);
    }

    @Caller.Says("public static final int NONE = -1000000, BAD = -1000001, STATE = -1000002, FULL = -1000003;")
    static void theConstants() {
        Caller.same("NONE", ChainParts.NONE, -1000000);
        Caller.same("BAD", ChainParts.BAD, -1000001);
        Caller.same("STATE", ChainParts.STATE, -1000002);
        Caller.same("FULL", ChainParts.FULL, -1000003);
    }

    @Caller.Says("Numbers go from 0 on.")
    static void numbersGoFrom0On() {
        Caller o = Caller.reads("c3;e011;e122;f1aA;f2bB;");
        o.is("as 0 0 1", 0).is("as 0 2 1", 2).all(BAD, "as 0 -1 1", "as 0 3 1");
        o.is("cell 1 0 2", 1).is("cell 1 1 2", 2).all(BAD, "cell 1 -1 2", "cell 1 2 2");
        o.is("cell 2 0 10", 'a').is("cell 2 1 10", 'b').all(BAD, "cell 2 -1 10", "cell 2 2 10");
        o.is("put 0 0 1", 0).is("put 2 0 1", 0).all(BAD, "put -1 0 1", "put 3 0 1");
        o.is("edge 0 2 1", 2).is("edge 2 0 1", 3);
        sews(o, "aA", 2);
    }

    @Caller.Says("Fractions are told as two numbers in lowest terms, above and below (0 is 0 by 1; below is above 0).")
    static void fractionsInLowestTerms() {
        Caller o = Caller.reads("c3;e011;e122;e203;f1abc;").chain(0, 1, 0, 0).chain(1, 1, 1, 1);
        o.fraction("part 0 0 0", 6, 11).fraction("part 0 1 1", -6, 11).fraction("part 0 2 0", 0, 1);
        o.fraction("part 1 0 0", 1, 1).fraction("part 1 1 0", 0, 1).fraction("part 2 0 0", 0, 1);
        o.fraction("length 0 0", 6, 11).fraction("length 0 2", 0, 1).fraction("length 2 3", 0, 1);
        Caller p = Caller.reads("c1;e001;e001;f1ab;").chain(0, 1, 0).chain(1, 2, 0).chain(2, -1, 0);
        p.fraction("part 0 0 0", 1, 2).fraction("part 0 2 1", -1, 2).fraction("length 0 0", 1, 2);
        p.fraction("part 1 0 0", 1, 1).fraction("part 1 2 1", -1, 1).fraction("length 1 0", 2, 1);
        p.fraction("part 2 0 0", -1, 2).fraction("part 2 2 1", 1, 2).fraction("length 2 0", 1, 2);
        Caller q = Caller.reads("c1;e002;e003;").chain(0, 2, 0).chain(1, 0, -9).chain(2, 3, 3);
        q.fraction("length 0 3", 2, 1).fraction("length 1 3", 27, 1).fraction("length 2 3", 15, 2);
    }

    @Caller.Says("Sets are bits.")
    static void setsAreBits() {
        Caller o = Caller.reads("c1;e001;f1a;f1aa;f1aaa;f1aaaa;");
        o.is("twist 1 0", 1).is("twist 2 0", 2).is("twist 4 0", 3).is("twist 8 0", 4);
        o.is("twist 10 0", 2).is("twist 12 0", 1).is("twist 0 0", 1).is("twist 15 0", 1);
        o.all(BAD, "twist 16 0", "twist -1 0", "twist 17 0");
    }

    @Caller.Says("Refusals are answers, the first of these that fits, but as told: BAD (a number is not as told; there is no such thing), STATE (as told), FULL (as told).")
    static void theFirstRefusalThatFits() {
        Caller none = new Caller();
        none.all(STATE, "edge -1 9 9", "face 0", "drawn 3 0", "rank 3 1", "holes 3 1", "twist 1 -1", "whole 3 3", "length 3 4 2",
            "share 3 3", "trees 3 2", "minors 3", "image 1", "restore 1");
        none.all(BAD, "weigh 1 0 1", "drop 1 0", "put 0 0 0", "bound 0 0 0", "cell 1 0 0", "as 0 0 0", "table 1 0 0", "near 0 0 0",
            "chain 0 0", "ends 0 0", "part 0 0 0 0", "image 2", "restore 2");
        Caller o = Caller.reads(SIX + "f1a;f1a;f1a;f1a;").all(FULL, "edge 0 0 1").all(BAD, "edge 1 0 1", "edge 0 0 4");
        o.tape("a").is("face 1", FULL).tape("a").is("face 4", BAD).tape("g").is("face 1", BAD).is("face 1", BAD);
        o.does("put 0 0 9").is("bound 0 0 1", FULL).all(BAD, "bound 0 0 10", "bound 3 0 1", "bound 0 4 1");
        o.is("drop 1 0", STATE).is("drop 1 6", BAD).is("drop 2 4", BAD).is("share 1 0", STATE).all(BAD, "share 1 3", "share 3 0");
        o.is("restore 0", STATE).is("restore 2", BAD).tape("x".repeat(90)).is("feed 1", FULL).is("feed 256", BAD).is("feed -1", BAD);
    }

    // ---- 1: a complex

    @Caller.Says("POINTS 0 .. (1 to 5 of them)")
    static void points() {
        fault("c0;", 1, 2);
        good("c1;", 1, 0, 0);
        good("c5;", 5, 0, 0);
        fault("c6;", 1, 2);
        fault("c9;", 1, 2);
        Caller.reads("c1;").is("as 0 0 1", 0).is("as 0 1 1", BAD).is("edge 0 0 1", 0).is("edge 0 1 1", BAD);
        Caller.reads("c5;").is("as 0 4 1", 4).is("as 0 5 1", BAD).is("edge 4 4 1", 0).is("edge 4 5 1", BAD);
    }

    @Caller.Says("EDGES 0 .. (6 at most)")
    static void edges() {
        good("c1;e001;e001;e001;e001;e001;", 1, 5, 0);
        good(SIX, 1, 6, 0);
        fault(SIX + "e001;", 33, 3);
        Caller o = Caller.reads("c1;e001;e001;e001;e001;e001;").is("edge 0 0 1", 5).is("edge 0 0 1", FULL);
        o.is("count 1", 6).is("cell 1 5 0", 1).is("cell 1 6 0", BAD);
        Caller p = Caller.reads("c1;");
        for (int e = 0; e < 6; e++) {
            p.is("edge 0 0 1", e);
        }
        p.is("edge 0 0 1", FULL).is("drop 1 5", 5).is("edge 0 0 1", 5).is("edge 0 0 1", FULL).is("undo", 7)
            .is("edge 0 0 1", 5);
    }

    @Caller.Says("each from a POINT to a POINT (its own, too), of a WEIGHT 1 to 3;")
    static void anEdge() {
        good("c2;e003;e113;e011;e101;", 2, 4, 0);
        Caller.reads("c2;e003;e113;e012;e101;").is("cell 1 0 1", 0).is("cell 1 0 2", 0).is("cell 1 1 1", 1)
            .is("cell 1 1 2", 1).is("cell 1 2 1", 0).is("cell 1 2 2", 1).is("cell 1 3 1", 1).is("cell 1 3 2", 0)
            .is("cell 1 0 0", 3).is("cell 1 2 0", 2).is("cell 1 3 0", 1);
        fault("c2;e020;", 5, 2);
        fault("c2;e201;", 4, 2);
        fault("c1;e000;", 6, 2);
        good("c1;e001;", 1, 1, 0);
        good("c1;e003;", 1, 1, 0);
        fault("c1;e004;", 6, 2);
        fault("c1;e009;", 6, 2);
        Caller.reads("c2;").is("edge 1 1 3", 0).is("edge 0 1 1", 1).all(BAD, "edge 2 0 1", "edge 0 2 1", "edge -1 0 1",
            "edge 0 -1 1", "edge 0 0 0", "edge 0 0 4", "edge 0 0 -1");
    }

    @Caller.Says("FACES 0 .. (4 at most)")
    static void faces() {
        good("c1;e001;f1a;f1a;f1a;f1a;", 1, 1, 4);
        fault("c1;e001;f1a;f1a;f1a;f1a;f1a;", 24, 3);
        Caller o = Caller.reads("c1;e001;");
        for (int f = 0; f < 4; f++) {
            sews(o, "a", f);
        }
        sews(o, "a", FULL).is("count 2", 4).is("cell 2 3 0", 1).is("cell 2 4 0", BAD).is("drop 2 0", 3);
        sews(o, "A", 3).is("cell 2 3 10", 'A');
        sews(o, "a", FULL).is("undo", 5);
        sews(o, "aa", 3).is("cell 2 3 1", 2);
    }

    @Caller.Says("each of a WEIGHT 1 to 3, with a WORD:")
    static void theWeightOfAFace() {
        fault("c1;e001;f0a;", 9, 2);
        good("c1;e001;f1a;f3a;", 1, 1, 2);
        fault("c1;e001;f4a;", 9, 2);
        fault("c1;e001;f9a;", 9, 2);
        Caller o = Caller.reads("c1;e001;f1a;f3a;").is("cell 2 0 0", 1).is("cell 2 1 0", 3);
        o.does("tape a").is("face 0", BAD).does("tape a").is("face 4", BAD).does("tape a").is("face -1", BAD);
        o.does("tape a").is("face 1", 2).does("tape a").is("face 3", 3).is("cell 2 2 0", 1).is("cell 2 3 0", 3);
    }

    @Caller.Says("1 to 4 letters")
    static void lettersOfAWord() {
        fault("c1;e001;f1;", 10, 1);
        good("c1;e001;f1a;f1aaaa;", 1, 1, 2);
        fault("c1;e001;f1aaaaa;", 14, 2);
        Caller o = Caller.reads("c1;e001;f1a;f1aaaa;").is("cell 2 0 1", 1).is("cell 2 1 1", 4);
        o.is("cell 2 0 10", 'a').is("cell 2 0 11", NONE).is("cell 2 1 13", 'a').is("cell 2 1 14", BAD);
        sews(o, "", BAD);
        sews(o, "aaaaa", BAD);
        sews(o, "a", 2).is("cell 2 2 1", 1);
        sews(o, "aAaA", 3).is("cell 2 3 1", 4).is("cell 2 3 13", 'A');
    }

    @Caller.Says("a to f for EDGES 0 to 5, A to F for these backward")
    static void whatALetterMeans() {
        Caller o = Caller.reads("c2;e001;e011;e011;e011;e011;e101;f1a;f1A;f1bf;f1FB;");
        o.is("table 2 0 0", 1).is("table 2 0 1", -1).is("table 2 1 2", 1).is("table 2 5 2", 1).is("table 2 1 3", -1)
            .is("table 2 5 3", -1).is("table 2 2 2", 0).is("cell 2 2 11", 'f').is("cell 2 3 10", 'F');
        fault("c2;e011;e011;e011;e011;e011;e101;f1bg;", 36, 2);
        fault("c2;e011;e011;e011;e011;e011;e101;f1G;", 35, 2);
        good(SIX + "f1af;f1AF;", 1, 6, 2);
        for (String no : new String[] {"g", "G", "@", "[", "`", "{", "z", "Z", ";"}) {
            sews(Caller.reads(SIX), "a" + no, BAD);
        }
        sews(Caller.reads(SIX), "f", 0).is("table 2 5 0", 1);
        sews(Caller.reads(SIX), "F", 0).is("table 2 5 0", -1);
        sews(Caller.reads("c1;e001;"), "b", BAD);
        sews(Caller.reads("c1;e001;"), "B", BAD);
        sews(Caller.reads("c1;"), "a", BAD);
        sews(Caller.reads("c1;"), "A", BAD);
    }

    @Caller.Says("a closed walk: each begins at the POINT at which the one ahead ends, the first one at that at which the last one ends.")
    static void aClosedWalk() {
        good("c3;e011;e121;e201;f1abc;f1bca;f1CBA;f1aA;", 3, 3, 4);
        fault("c3;e011;e121;e201;f1acb;", 21, 2);
        fault("c3;e011;e121;e201;f1aC;", 21, 2);
        fault("c3;e011;e121;e201;f1ab;", 22, 2);
        fault("c3;e011;e121;e201;f1a;", 21, 2);
        fault("c3;e011;e121;e201;f1A;", 21, 2);
        String triangle = "c3;e011;e121;e201;";
        for (String word : new String[] {"abc", "cab", "Aa", "bBbB", "ACBa"}) {
            boolean walk = !word.equals("ACBa");
            sews(Caller.reads(triangle), word, walk ? 0 : BAD);
        }
        for (String word : new String[] {"a", "A", "ab", "aa", "acb", "abca", "aB", "bA"}) {
            sews(Caller.reads(triangle), word, BAD);
        }
    }

    @Caller.Says("WEIGHTS of POINTS are 1.")
    static void weightsOfPoints() {
        Caller o = Caller.reads("c2;e013;e012;").all(BAD, "weigh 0 0 1", "weigh 0 0 2", "cell 0 0 0");
        o.all(2, "near 1 0 0", "near 1 0 1", "near 1 1 1").is("near 0 0 0", 5);
    }

    // ---- 1: the tape

    @Caller.Says("THE TAPE has at most 90 bytes, that come one by one")
    static void theTape() {
        Caller o = new Caller().is("count 4", 0);
        for (int i = 1; i <= 90; i++) {
            o.is("feed 120", i);
        }
        o.all(FULL, "feed 120", "feed 0", "feed 255").is("count 4", 90).is("complex", -1000100).is("count 4", 0);
        o.is("feed 120", 1).is("count 4", 1);
        Caller p = Caller.reads("c1;e001;").tape("a".repeat(90)).is("feed 97", FULL).is("face 1", BAD).is("count 4", 0);
        sews(p, "a", 0);
        String longest = SIX + "f1abcd;f1efAB;f1CDEF;f3ffff;";
        Caller.same("bytes of the longest complex", longest.length(), 61);
        good(longest, 1, 6, 4);
        fault(longest + "x".repeat(29), 61, 1);
        fault(longest + "f".repeat(29), 61, 3);
        Caller q = new Caller().tape(longest + "x".repeat(29)).is("feed 59", FULL).is("complex", -1000161);
        q.tape("c1;").is("complex", 1);
    }

    @Caller.Says("letters a to z, A to Z (each by itself), digits (each by itself), SIGNS , and ; nothing else.")
    static void tokens() {
        for (int no : new int[] {0, 9, 10, 32, '/', ':', '@', '[', '`', '{', 127, 128, 255, ','}) {
            String sign = String.valueOf((char) no);
            fault(sign + "1;", 0, 1);
            fault("c" + sign + ";", 1, 1);
            fault("c1" + sign, 2, 1);
            fault("c1;" + sign, 3, 1);
            fault("c1;e" + sign, 4, 1);
            fault("c1;e001;f1" + sign, 10, 1);
            fault("c1;e001;f1a" + sign, 11, 1);
        }
        for (char letter : "azAZbyBYgG".toCharArray()) {
            fault("c1;f1" + letter, 5, 2);
            fault("c1" + letter, 2, 1);
        }
    }

    @Caller.Says("complex: c POINTS ; { edge } { face }.")
    static void aText() {
        good("c1;", 1, 0, 0);
        good("c1;e001;", 1, 1, 0);
        good("c1;e001;f1a;", 1, 1, 1);
        fault("C1;", 0, 1);
        fault("1;", 0, 1);
        fault("e001;", 0, 1);
        fault(";", 0, 1);
        fault("cc1;", 1, 1);
        fault("c;", 1, 1);
        fault("c11;", 2, 1);
        fault("c1e001;", 2, 1);
        fault("c1;;", 3, 1);
        fault("c1;c1;", 3, 1);
        fault("c1;E001;", 3, 1);
        fault("c1;e001;F1a;", 8, 1);
        fault("c1;e001;;", 8, 1);
        fault("c1;e001;1", 8, 1);
        fault("c1;e001;f1a;e001;", 12, 1);
        fault("c1;e001;f1a;;", 12, 1);
        fault("c1;f1a;", 5, 2);
    }

    @Caller.Says("edge: e FROM TO WEIGHT ; (three digits).")
    static void anEdgeInAText() {
        fault("c1;e;", 4, 1);
        fault("c1;e0;", 5, 1);
        fault("c1;e00;", 6, 1);
        good("c1;e001;", 1, 1, 0);
        fault("c1;e0011;", 7, 1);
        fault("c1;e001e", 7, 1);
        fault("c1;e0a1;", 5, 1);
    }

    @Caller.Says("face: f WEIGHT WORD ;")
    static void aFaceInAText() {
        fault("c1;e001;f;", 9, 1);
        fault("c1;e001;fa;", 9, 1);
        fault("c1;e001;f11a;", 10, 1);
        fault("c1;e001;f1a1;", 11, 1);
        fault("c1;e001;f1aaaa1", 14, 1);
        good("c1;e001;f1a;f1a;", 1, 1, 2);
    }

    @Caller.Says("A COMPLEX that is read stands in place of the one before (none at first), all CHAINS are 0 then; no ACT can be undone; IMAGES stay.")
    static void aComplexThatIsRead() {
        new Caller().is("count 0", 0).is("edge 0 0 1", STATE).is("rank 1 0", STATE);
        Caller o = Caller.reads("c2;e013;e112;f2bb;").chain(0, 1, 2).chain(2, 9, -9).is("image 0", 1).chain(1, 3, 4);
        o.is("count 3", 6).tape("c1;e001;e001;").is("complex", 3).is("count 3", 0).is("undo", STATE);
        o.is("count 0", 1).is("count 1", 2).is("count 2", 0).is("cell 1 0 0", 1).is("cell 1 1 1", 0);
        o.chainIs(0, 0, 0).chainIs(1, 0, 0).chainIs(2, 0, 0).is("cell 2 0 0", BAD);
        o.is("restore 1", STATE).is("restore 0", 1).chainIs(0, 1, 2).chainIs(1, 0, 0).chainIs(2, 9, -9);
        o.is("cell 2 0 0", 2).is("count 0", 2);
        Caller p = Caller.reads("c1;e001;").chain(0, 5).tape("c1;e001;").is("complex", 2).chainIs(0, 0).is("count 3", 0);
        p.tape("c5;").is("complex", 5).is("chain 0 0", BAD).tape("c1;e001;").is("complex", 2).chainIs(0, 0);
    }

    /** What was told of the COMPLEX before is nothing to the one that stands in its place. */
    @Caller.Says("A COMPLEX that is read stands in place of the one before")
    static void theOneBeforeIsForgotten() {
        String[] asked = {"rank 1 0", "rank 2 0", "rank 2 2", "holes 1 3", "twist 1 0", "twist 1 1", "twist 1 2", "whole 0 1",
            "whole 0 2", "whole 2 2", "part 0 0 0 0", "part 0 1 0 0", "part 0 2 0 0", "length 0 0 0", "length 0 1 0",
            "length 0 2 0", "share 0 0", "share 0 2", "trees 1 1", "trees 2 0", "trees 2 1", "minors 0", "minors 1", "minors 2"};
        Caller fresh = Caller.reads("c2;e003;f2aaaa;").chain(0, 3);
        for (String call : asked) {
            Caller o = Caller.reads("c5;e011;e121;e201;e341;e001;e111;f1abc;f1e;f1aFA;f1f;").chain(0, 1, 2, 3, 4, 5, 6);
            o.does(asked).does(call).tape("c2;e003;f2aaaa;").is("complex", 4).chain(0, 3);
            Caller.same(call, o.answer(call), fresh.answer(call));
        }
        fresh.is("twist 1 0", 4).is("whole 0 2", 4).is("minors 2", 32).is("trees 2 1", 32).fraction("part 0 0 0", 3, 1);
    }

    // ---- 1: faults

    @Caller.Says("FAULTS, the first TOKEN that has one")
    static void theFirstTokenThatHasOne() {
        fault("c0,", 1, 2);
        fault("c6;e;;", 1, 2);
        fault("c1;e000,", 6, 2);
        fault("c1;e01", 5, 2);
        fault("c1;e001;f1ba", 10, 2);
        fault(SIX + "e999", 33, 3);
        fault("c1;e001;f1a;f1a;f1a;f1a;fx", 24, 3);
        fault("x0", 0, 1);
    }

    @Caller.Says("of one TOKEN the least:")
    static void ofOneTokenTheLeast() {
        fault(SIX + "f1a;e001;", 37, 1);
        fault("c1;e001;f1a;f1a;f1a;f1a;e001;", 24, 1);
        fault("c1;9", 3, 1);
        fault("c1;e001;f19", 10, 1);
        fault("c1;e001;f1aaaa9", 14, 1);
        fault("c1;e0019", 7, 1);
        fault("c2;e011;f1;", 10, 1);
    }

    @Caller.Says("1 it cannot stand there, or is none (the end: how many bytes there are)")
    static void theEnd() {
        String text = "c2;e011;e111;f1aA;f2bb;";
        for (int size = 0; size <= text.length(); size++) {
            String part = text.substring(0, size);
            if (size > 0 && part.endsWith(";")) {
                new Caller().tape(part).is("complex", 2 + part.chars().filter(c -> c == ';').count() - 1).is("fault", 0);
            } else {
                fault(part, size, 1);
            }
        }
        fault("", 0, 1);
    }

    @Caller.Says("2 a digit that is not as told")
    static void aDigitThatIsNotAsTold() {
        for (int digit = 0; digit <= 9; digit++) {
            if (digit < 1 || digit > 5) {
                fault("c" + digit + ";", 1, 2);
            } else {
                good("c" + digit + ";", digit, 0, 0);
            }
            for (int points = 1; points <= 5; points += 2) {
                if (digit < points) {
                    good("c" + points + ";e" + digit + "01;e0" + digit + "1;", points, 2, 0);
                } else {
                    fault("c" + points + ";e" + digit + "01;", 4, 2);
                    fault("c" + points + ";e0" + digit + "1;", 5, 2);
                }
            }
            if (digit < 1 || digit > 3) {
                fault("c1;e00" + digit + ";", 6, 2);
                fault("c1;e001;f" + digit + "a;", 9, 2);
            } else {
                good("c1;e00" + digit + ";f" + digit + "a;", 1, 1, 1);
            }
        }
    }

    @Caller.Says("a letter of a WORD (any of a to z, A to Z) whose EDGE there is not")
    static void aLetterWhoseEdgeThereIsNot() {
        String edges = "";
        for (int many = 0; many <= 6; many++) {
            String text = "c1;" + edges + "f1";
            for (char c = 'a'; c <= 'z'; c++) {
                for (char letter : new char[] {c, Character.toUpperCase(c)}) {
                    if (c - 'a' < many) {
                        good(text + letter + ";", 1, many, 1);
                    } else {
                        fault(text + letter + ";", text.length(), 2);
                    }
                }
            }
            edges += "e001;";
        }
    }

    @Caller.Says("that does not begin where the one ahead ends")
    static void aLetterThatDoesNotGoOn() {
        String text = "c3;e011;e121;e221;f1";
        fault(text + "aa;", 21, 2);
        fault(text + "ac;", 21, 2);
        fault(text + "aB;", 21, 2);
        fault(text + "AA;", 21, 2);
        fault(text + "aba;", 22, 2);
        fault(text + "abca;", 23, 2);
        fault(text + "aAb;", 22, 2);
        good(text + "bcB;", 3, 3, 1);
        good(text + "bCcB;", 3, 3, 1);
    }

    @Caller.Says("that is a fifth one;")
    static void aFifthLetter() {
        fault("c1;e001;f1aaaaa;", 14, 2);
        fault("c1;e001;f1aaaaz;", 14, 2);
        fault("c2;e011;f1aAaAa;", 14, 2);
        good("c2;e011;f1aAaA;", 2, 1, 1);
    }

    @Caller.Says("the ; behind a WORD that is not closed;")
    static void aWordThatIsNotClosed() {
        fault("c2;e011;f1a;", 11, 2);
        fault("c2;e011;f1A;", 11, 2);
        fault("c2;e011;f1aAa;", 13, 2);
        fault("c2;e011;e111;f1ab;", 17, 2);
        fault("c2;e011;f1a", 11, 1);
        fault("c2;e011;f1a1", 11, 1);
        good("c2;e011;e111;f1abA;", 2, 2, 1);
    }

    @Caller.Says("3 an edge, a face more than there is room for (its letter).")
    static void moreThanThereIsRoomFor() {
        fault(SIX + "e", 33, 3);
        fault(SIX + "e001;", 33, 3);
        fault(SIX + "f1a;f1b;f1c;f1d;f", 49, 3);
        fault(SIX + "f1a;f1b;f1c;f1d;f1e;", 49, 3);
        fault("c1;f", 4, 1);
        good(SIX + "f1a;f1b;f1c;f1d;", 1, 6, 4);
    }

    // ---- 1: kinds, and what a face's word may be

    @Caller.Says("KINDS of cells: 0 CELL; 1 POINT, a CELL; 2 EDGE, a CELL; 3 LOOP, an EDGE (from a POINT to itself); 4 FACE, a CELL; 5 SEALED, a FACE (in whose WORD each EDGE goes as often forward as backward).")
    static void kinds() {
        Caller o = Caller.reads("c2;e011;e001;e111;f1bbBB;f1bbbB;");
        String yes = "0 1 0, 0 1 1, 1 0 0, 1 0 2, 1 1 3, 1 2 3, 2 0 0, 2 0 4, 2 0 5, 2 1 4";
        for (int[] cell : new int[][] {{0, 1}, {1, 0}, {1, 1}, {1, 2}, {2, 0}, {2, 1}}) {
            for (int kind = 0; kind <= 5; kind++) {
                String call = cell[0] + " " + cell[1] + " " + kind;
                boolean own = kind == 0 || kind == (cell[0] == 0 ? 1 : 2 * cell[0]);
                o.is("as " + call, own || yes.contains(call) ? cell[1] : NONE);
            }
            o.all(BAD, "as " + cell[0] + " " + cell[1] + " -1", "as " + cell[0] + " " + cell[1] + " 6");
        }
        Caller.reads("c2;e011;f1aA;f1aAaA;f1AaAa;").is("as 2 0 5", 0).is("as 2 1 5", 1).is("as 2 2 5", 2).is("as 1 0 3", NONE);
        Caller.reads("c1;e001;f1a;f1A;").all(NONE, "as 2 0 5", "as 2 1 5");
        Caller.reads(SIX + "f1f;").is("as 2 0 5", NONE);
        Caller.reads("c1;e001;e001;f1aB;f1abAB;f1ABab;f1aAb;").is("as 2 0 5", NONE).is("as 2 1 5", 1).is("as 2 2 5", 2)
            .is("as 2 3 5", NONE);
    }

    // ---- 2: boundaries, tables, ranks, holes, twists

    @Caller.Says("BOUNDARY of an EDGE: the POINT TO less the POINT FROM; of a FACE: each EDGE as often as it goes forward in its WORD less how often it goes backward.")
    static void boundaries() {
        Caller o = Caller.reads("c2;e011;e101;e111;f1cccc;f1CCCC;f1cCcC;f1ab;");
        o.is("table 1 0 0", -1).is("table 1 1 0", 1).is("table 1 0 1", 1).is("table 1 1 1", -1);
        o.all(0, "table 1 0 2", "table 1 1 2");
        o.is("table 2 2 0", 4).is("table 2 2 1", -4).is("table 2 2 2", 0).is("table 2 2 3", 0).is("table 2 0 3", 1)
            .is("table 2 1 3", 1);
    }

    @Caller.Says("TABLE 1: row i of POINT i, column j of EDGE j; TABLE 2: row i of EDGE i, column j of FACE j: how often i is in the BOUNDARY of j.")
    static void tables() {
        Caller o = Caller.reads("c5;e041;e401;e001;e001;e001;e441;f1ab;f1BA;f1c;f1f;");
        o.is("table 1 0 0", -1).is("table 1 4 0", 1).is("table 1 4 5", 0).is("table 2 0 0", 1).is("table 2 5 3", 1)
            .is("table 2 0 1", -1);
        o.all(BAD, "table 1 -1 0", "table 1 5 0", "table 1 0 -1", "table 1 0 6", "table 2 -1 0", "table 2 6 0",
            "table 2 0 -1", "table 2 0 4", "table 0 0 0", "table 3 0 0");
        Caller.reads("c1;").all(BAD, "table 1 0 0", "table 2 0 0").is("edge 0 0 1", 0).is("table 1 0 0", 0).is("table 2 0 0", BAD);
    }

    @Caller.Says("NEIGHBOURS: 0 of POINTS: TABLE 1 times WEIGHTS of EDGES times TABLE 1 turned (row and column changed); 1 of EDGES, by POINTS: TABLE 1 turned times TABLE 1; 2 of EDGES, by FACES: TABLE 2 times WEIGHTS of FACES times TABLE 2 turned.")
    static void neighbours() {
        Caller.reads("c2;").all(0, "near 0 0 0", "near 0 0 1", "near 0 1 1").all(BAD, "near 0 2 0", "near 0 0 2",
            "near 1 0 0", "near 2 0 0");
        Caller.reads("c1;e003;").all(0, "near 0 0 0", "near 1 0 0", "near 2 0 0").all(BAD, "near 1 1 0", "near 2 0 1");
        Caller.reads("c2;e013;e013;e013;e013;e013;e013;").is("near 0 0 0", 18).is("near 0 0 1", -18).is("near 1 5 5", 2)
            .is("near 1 6 0", BAD).is("near 2 5 5", 0);
        Caller.reads("c1;e001;e001;f3aaaa;f3AAAA;f3aaaa;f3aaaa;").is("near 2 0 0", 192).is("near 2 0 1", 0);
        Caller.reads("c1;e001;e001;f3aaBB;").is("near 2 0 0", 12).is("near 2 0 1", -12).is("near 2 1 0", -12);
    }

    @Caller.Says("RANK of a TABLE: how many of its columns are independent (over fractions; by a prime p: in what numbers leave by p).")
    static void ranks() {
        for (int p : new int[] {0, 2, 3, 5, 7}) {
            Caller.reads("c1;").is("rank 1 " + p, 0).is("rank 2 " + p, 0);
            Caller.reads("c1;e001;f1aA;").is("rank 1 " + p, 0).is("rank 2 " + p, 0);
            Caller.reads("c5;e011;e121;e231;e341;e401;e001;").is("rank 1 " + p, 4).is("rank 2 " + p, 0);
            Caller.reads("c1;e001;e001;e001;e001;f1a;f1b;f1c;f1d;").is("rank 1 " + p, 0).is("rank 2 " + p, 4);
            Caller.reads("c1;e001;e001;f1aa;f1bbb;").is("rank 2 " + p, p == 2 || p == 3 ? 1 : 2);
            Caller.reads("c1;e001;e001;f1aaab;f1bbA;").is("rank 2 " + p, p == 7 ? 1 : 2);
            Caller.reads("c1;e001;e001;f1aab;f1abbb;").is("rank 2 " + p, p == 5 ? 1 : 2);
        }
    }

    @Caller.Says("HOLES of dimension 0: POINTS less RANK of TABLE 1; 1: EDGES less both RANKS; 2: FACES less RANK of TABLE 2.")
    static void holes() {
        Caller.reads("c5;").is("holes 0 0", 5).is("holes 1 0", 0).is("holes 2 0", 0);
        Caller.reads("c5;e011;e121;e231;e341;").is("holes 0 0", 1).is("holes 1 0", 0).is("holes 2 0", 0);
        Caller.reads(SIX + "f1aA;f1aA;f1aA;f1aA;").is("holes 0 2", 1).is("holes 1 2", 6).is("holes 2 2", 4);
        Caller.reads(SIX + "f1a;f1b;f1c;f1d;").is("holes 0 0", 1).is("holes 1 0", 2).is("holes 2 0", 0);
        Caller.reads("c2;e011;e001;f1bb;").is("holes 0 2", 1).is("holes 1 2", 1).is("holes 2 2", 1)
            .is("holes 1 0", 0).is("holes 2 0", 0).is("holes 1 3", 0);
    }

    @Caller.Says("where r is the RANK of TABLE 2 of these columns alone, and g(k) the greatest common divisor of all its minors of k rows and columns (g(0) is 1): TWIST k is g(k) by g(k less 1), k 1 to r; TWISTED: all, multiplied: g(r).")
    static void twists() {
        Caller o = Caller.reads("c1;e001;e001;e001;e001;f1aaaa;f1bbbb;f1cccc;f1dddd;");
        o.is("twist 0 0", 1).is("twist 0 1", NONE);
        o.is("twist 1 0", 4).is("twist 1 1", 4).is("twist 1 2", NONE);
        o.is("twist 9 0", 16).is("twist 9 2", 4).is("twist 9 3", NONE);
        o.is("twist 15 0", 256).all(4, "twist 15 1", "twist 15 2", "twist 15 3", "twist 15 4").is("twist 15 5", NONE);
        Caller p = Caller.reads("c1;e001;e001;f1aa;f1bbb;f1aabb;f1aA;");
        p.is("twist 3 1", 1).is("twist 3 2", 6).is("twist 3 0", 6).is("twist 5 1", 2).is("twist 5 2", 2).is("twist 5 0", 4);
        p.is("twist 8 0", 1).is("twist 8 1", NONE).is("twist 15 0", 2).is("twist 15 2", 2).is("twist 15 3", NONE);
    }

    // ---- 2: chains and their parts

    @Caller.Says("CHAINS 0 to 2: of each EDGE a number, -9 to 9 (0 at first).")
    static void chains() {
        Caller o = Caller.reads("c1;e001;e001;").chainIs(0, 0, 0).chainIs(1, 0, 0).chainIs(2, 0, 0);
        o.is("put 0 0 -9", 0).is("put 0 0 9", -9).is("put 2 1 9", 0).is("put 2 1 -9", 9).all(BAD, "put 0 0 -10", "put 0 0 10",
            "put -1 0 0", "put 3 0 0", "chain -1 0", "chain 3 0", "chain 0 -1", "chain 0 2");
        o.chainIs(0, 9, 0).chainIs(1, 0, 0).chainIs(2, 0, -9).is("edge 0 0 1", 2).chainIs(0, 9, 0, 0).chainIs(2, 0, -9, 0);
    }

    @Caller.Says("BOUNDARY of a CHAIN: those of its EDGES, so many times, together (a number for each POINT).")
    static void boundaryOfAChain() {
        Caller o = Caller.reads("c2;e011;e011;e011;e011;e011;e011;").chain(0, 9, 9, 9, 9, 9, 9).chain(1, -9, -9, -9, -9, -9, -9);
        o.is("ends 0 0", -54).is("ends 0 1", 54).is("ends 1 0", 54).is("ends 1 1", -54).is("ends 2 0", 0);
        o.all(BAD, "ends 0 -1", "ends 0 2", "ends -1 0", "ends 3 0");
        Caller.reads("c1;e001;").chain(0, 9).is("ends 0 0", 0);
        Caller.reads("c1;").is("ends 0 0", 0).is("ends 2 0", 0).is("ends 0 1", BAD);
    }

    @Caller.Says("A CYCLE has a BOUNDARY of 0 at each POINT.")
    static void cycles() {
        Caller.reads("c1;").is("whole 0 0", 1);
        Caller.reads("c5;e011;e341;e221;").is("whole 0 0", 1).does("put 0 2 9").is("whole 0 0", 1).does("put 0 1 1")
            .is("whole 0 0", 0).does("put 0 1 0", "put 0 0 -1").is("whole 0 0", 0).is("whole 1 0", 1);
        Caller.reads("c2;e011;e101;").chain(0, 9, 9).chain(1, 9, 8).is("whole 0 0", 1).is("whole 1 0", 0);
    }

    @Caller.Says("A CHAIN BOUNDS, if it is some whole times BOUNDARIES of FACES, together.")
    static void chainsThatBound() {
        Caller.reads("c1;").is("whole 0 1", 1);
        Caller.reads("c2;e001;e011;").is("whole 0 1", 1).does("put 0 0 1").is("whole 0 1", 0).does("put 1 1 1").is("whole 1 1", 0);
        Caller o = Caller.reads("c1;e001;e001;f1aaa;f1aabb;f1aA;").chain(0, 9, 0).chain(1, 1, 2).chain(2, 1, 0);
        o.is("whole 0 1", 1).is("whole 1 1", 0).is("whole 2 1", 0).does("put 1 1 -2").is("whole 1 1", 1)
            .does("put 1 1 0", "put 1 0 -3").is("whole 1 1", 1);
    }

    @Caller.Says("ORDER of a CHAIN: the least k from 1 on so that k times it BOUNDS.")
    static void orders() {
        Caller.reads("c1;").is("whole 0 2", 1);
        Caller.reads("c1;e001;").is("whole 0 2", 1).does("put 0 0 1").is("whole 0 2", NONE);
        Caller o = Caller.reads("c2;e001;e001;e001;e011;f1aaaa;f1bbb;f1ccCC;").chain(0, 1, 1, 0, 0).chain(1, 8, 9, 0, 0);
        o.is("whole 0 2", 12).is("whole 1 2", 1).chain(2, 2, 0, 0, 0).is("whole 2 2", 2).does("put 2 2 1").is("whole 2 2", NONE);
        o.chain(2, 4, 0, 0, 1).is("whole 2 2", NONE).chain(2, 1, 3, 0, 0).is("whole 2 2", 4);
        Caller p = Caller.reads("c1;e001;e001;e001;e001;f1aaaB;f1bbbC;f1cccD;f1ddd;").chain(0, 1, 0, 0, 0).chain(1, 3, 0, 0, 0);
        p.is("whole 0 2", 81).is("whole 1 2", 27);
        Caller q = Caller.reads(SIX + "f1aabb;f1ccdd;f1eeff;f1AAff;").chain(0, 0, 0, 0, 0, 1, 1).chain(1, 1, 1, 1, 1, 1, 1);
        q.is("whole 0 2", 2).is("whole 1 2", 2).is("whole 1 1", 0).is("whole 2 2", 1).does("put 0 5 -1").is("whole 0 2", NONE);
    }

    @Caller.Says("LENGTH of numbers x of EDGES: the sum of x times x by the WEIGHT of each.")
    static void lengths() {
        Caller.reads("c1;").fraction("length 0 3", 0, 1).fraction("length 0 0", 0, 1);
        Caller.reads(SIX).chain(0, 9, -9, 9, -9, 9, -9).fraction("length 0 3", 486, 1).fraction("length 1 3", 0, 1);
        Caller.reads("c1;e001;e002;e003;").chain(0, 1, 1, 1).fraction("length 0 3", 11, 6).does("weigh 1 2 1")
            .fraction("length 0 3", 5, 2);
    }

    @Caller.Says("Any CHAIN is the sum of three PARTS, each two perpendicular (the sum of x times y by WEIGHT is 0): 0 BOUNDING: fractions of BOUNDARIES of FACES, together; 1 DRIVEN: of each EDGE its WEIGHT times a fraction told for TO, less one told for FROM; 2 HARMONIC: what is left")
    static void parts() {
        Caller o = Caller.reads("c3;e011;e121;e001;e003;f1ccc;").chain(0, 4, -5, 6, 7);
        o.fraction("part 0 1 0", 4, 1).fraction("part 0 1 1", -5, 1).fraction("part 0 0 2", 6, 1).fraction("part 0 2 3", 7, 1);
        for (String none : new String[] {"0 0 0", "0 0 1", "0 0 3", "0 1 2", "0 1 3", "0 2 0", "0 2 1", "0 2 2"}) {
            o.fraction("part " + none, 0, 1);
        }
        o.fraction("length 0 0", 36, 1).fraction("length 0 1", 41, 1).fraction("length 0 2", 49, 3).fraction("length 0 3", 280, 3);
        for (String none : new String[] {"1 0 0", "1 1 0", "1 2 0", "2 0 3", "2 1 3", "2 2 3"}) {
            o.fraction("part " + none, 0, 1);
        }
        Caller p = Caller.reads("c2;e011;e012;e013;").chain(0, 1, 0, 0);
        p.fraction("part 0 1 0", 1, 6).fraction("part 0 1 1", 1, 3).fraction("part 0 1 2", 1, 2);
        p.fraction("part 0 2 0", 5, 6).fraction("part 0 2 1", -1, 3).fraction("part 0 2 2", -1, 2);
        p.fraction("length 0 1", 1, 6).fraction("length 0 2", 5, 6);
        Caller.reads("c1;e001;f1aA;f1a;").chain(0, 5).fraction("part 0 0 0", 5, 1).fraction("part 0 2 0", 0, 1);
        Caller.reads("c5;e342;").chain(0, 5).fraction("part 0 1 0", 5, 1).fraction("part 0 2 0", 0, 1);
    }

    @Caller.Says("Any CHAIN is the sum of three PARTS")
    static void partsOfTheLargest() {
        Caller o = Caller.reads("c5;e011;e122;e233;e341;e402;e133;f2bcF;").chain(0, 9, -8, 7, -6, 5, -4);
        partsAre(o, 0, "0/1 -2/7 -2/7 0/1 0/1 2/7");
        partsAre(o, 1, "864/115 -936/115 789/115 -861/115 404/115 -123/23");
        partsAre(o, 2, "171/115 342/805 342/805 171/115 171/115 171/161");
        lengthsAre(o, "2/21 20357/115 9747/1610 1099/6");
        Caller p = Caller.reads("c1;e002;e001;e003;e002;f1aab;f1bbC;f1ad;").chain(0, 9, -8, 7, 5);
        partsAre(p, 0, "65/7 -58/7 37/7 33/7");
        partsAre(p, 1, "0/1 0/1 0/1 0/1");
        partsAre(p, 2, "-2/7 2/7 12/7 2/7");
        lengthsAre(p, "2776/21 0/1 8/7 400/3");
        Caller q = Caller.reads("c3;e012;e122;e202;e012;f1abc;f1aD;").chain(0, 9, -8, 7, 5);
        partsAre(q, 0, "16/5 12/5 12/5 -4/5");
        partsAre(q, 1, "29/5 -52/5 23/5 29/5");
        partsAre(q, 2, "0/1 0/1 0/1 0/1");
        lengthsAre(q, "56/5 983/10 0/1 219/2");
    }

    static void partsAre(Caller o, int part, String fractions) {
        int edge = 0;
        for (String f : fractions.split(" ")) {
            o.fraction("part 0 " + part + " " + edge, Long.parseLong(f.split("/")[0]), Long.parseLong(f.split("/")[1]));
            edge++;
        }
    }

    static void lengthsAre(Caller o, String fractions) {
        int part = 0;
        for (String f : fractions.split(" ")) {
            o.fraction("length 0 " + part, Long.parseLong(f.split("/")[0]), Long.parseLong(f.split("/")[1]));
            part++;
        }
    }

    // ---- 2: trees, minors, acts, draws

    @Caller.Says("TREES of dimension 1: sets of EDGES, as many as RANK of TABLE 1, whose columns are independent; each counts the product of the WEIGHTS of its EDGES.")
    static void treesOfEdges() {
        Caller.reads("c2;e011;e012;e103;e003;").is("trees 1 0", 3).is("trees 1 1", 6);
        Caller.reads("c4;e012;e233;e111;").is("trees 1 0", 1).is("trees 1 1", 6);
        Caller.reads("c3;e012;e123;e203;").is("trees 1 0", 3).is("trees 1 1", 6 + 6 + 9);
        Caller.reads("c5;e013;e123;e233;e343;e403;").is("trees 1 0", 5).is("trees 1 1", 5 * 81);
    }

    @Caller.Says("Of dimension 2: sets of FACES, as many as RANK of TABLE 2, whose columns are independent; each counts the product of the WEIGHTS of its FACES times its TWISTED times its TWISTED.")
    static void treesOfFaces() {
        Caller.reads("c1;e001;f1a;f2aa;f3aaa;f1aA;").is("trees 2 0", 3).is("trees 2 1", 1 + 2 * 4 + 3 * 9);
        Caller.reads("c1;e001;e001;f2aab;f3bb;f1aa;").is("trees 2 0", 3).is("trees 2 1", 6 * 16 + 2 * 4 + 3 * 16);
        Caller.reads("c1;e001;e001;e001;f3ab;f2AB;f1c;f2cccc;").is("trees 2 0", 4).is("trees 2 1", 3 + 2 + (3 + 2) * 2 * 16);
    }

    @Caller.Says("(None of none: the empty set, 1.)")
    static void treesOfNone() {
        for (String text : new String[] {"c1;", "c5;"}) {
            Caller.reads(text).all(1, "trees 1 0", "trees 1 1", "trees 2 0", "trees 2 1");
        }
        Caller.reads("c1;e003;f3aA;").all(1, "trees 1 0", "trees 1 1", "trees 2 0", "trees 2 1");
        Caller.reads("c2;e013;").is("trees 1 0", 1).is("trees 1 1", 3).all(1, "trees 2 0", "trees 2 1");
        Caller.reads("c1;e003;f3aa;").all(1, "trees 1 0", "trees 1 1", "trees 2 0").is("trees 2 1", 12);
        Caller.reads("c4;e011;e021;e031;e121;e131;e231;").is("trees 1 0", 16).is("trees 1 1", 16);
        Caller.reads("c4;e013;e023;e033;e123;e133;e233;").is("trees 1 0", 16).is("trees 1 1", 432);
        Caller.reads("c1;e001;f3aaaa;f3aaaa;f3aaaa;f3aaaa;").is("trees 2 0", 4).is("trees 2 1", 192);
        Caller.reads("c1;e001;e001;e001;e001;f3aaaa;f3bbbb;f3cccc;f3dddd;").is("trees 2 0", 1).is("trees 2 1", 81 * 65536);
    }

    @Caller.Says("MINORS of NEIGHBOURS: all minors of some rows and the like columns, of r of these (r: the RANK of that table), together (r 0: 1).")
    static void minors() {
        for (String text : new String[] {"c1;", "c5;", "c1;e003;f3aA;"}) {
            Caller.reads(text).all(1, "minors 0", "minors 1", "minors 2");
        }
        Caller.reads("c2;e013;").is("minors 0", 6).is("minors 1", 2).is("minors 2", 1);
        Caller.reads("c1;e003;f3aa;").is("minors 0", 1).is("minors 1", 1).is("minors 2", 12);
        Caller.reads("c1;e001;e001;e001;e001;f3aaaa;f3bbbb;f3cccc;f3dddd;").is("minors 2", 81 * 65536);
        Caller.reads("c4;e013;e023;e033;e123;e133;e233;").is("minors 0", 4 * 432).is("minors 1", 4 * 16);
    }

    @Caller.Says("ACTS (8 at most are kept, of more the oldest is forgotten; each can be undone, the latest first; also such by which nothing becomes another)")
    static void acts() {
        Caller o = Caller.reads("c1;e001;");
        for (int i = 1; i <= 8; i++) {
            o.is("put 0 0 " + i, i - 1).is("count 3", i);
        }
        o.is("put 0 0 9", 8).is("count 3", 8);
        for (int left = 7; left >= 0; left--) {
            o.is("undo", left).is("chain 0 0", left + 1).is("count 3", left);
        }
        o.all(STATE, "undo", "undo").is("chain 0 0", 1).is("count 3", 0).is("put 0 0 5", 1).is("undo", 0).is("chain 0 0", 1);
        Caller p = Caller.reads("c1;e001;");
        for (int i = 1; i <= 8; i++) {
            p.is("put 0 0 " + i, i - 1);
        }
        for (int left = 7; left >= 0; left--) {
            p.is("undo", left).is("chain 0 0", left);
        }
        p.is("undo", STATE).is("chain 0 0", 0);
    }

    @Caller.Says("of more the oldest is forgotten")
    static void actsGoRound() {
        Caller o = Caller.reads("c1;e001;");
        int[] past = new int[200];
        int size = 1;
        int kept = 0;
        for (int round = 0; round < 12; round++) {
            for (int i = 0; i < 1 + round * 5 % 11; i++) {
                int next = (size * 7 + round) % 10;
                o.is("put 0 0 " + next, past[size - 1]);
                past[size] = next;
                size++;
                kept = Math.min(8, kept + 1);
            }
            for (int i = 0; i < 1 + round * 3 % 9; i++) {
                if (kept == 0) {
                    o.is("undo", STATE);
                } else {
                    size--;
                    kept--;
                    o.is("undo", kept);
                }
                o.is("chain 0 0", past[size - 1]);
            }
            o.is("count 3", kept);
        }
    }

    /** Acts on TWO_FACES; face takes bbb as its WORD. */
    static final String[] EACH_ACT = {"weigh 1 0 3", "weigh 1 0 2", "weigh 2 0 3", "weigh 2 0 2", "edge 0 1 3", "drop 1 0",
        "drop 1 2", "drop 2 0", "drop 2 1", "put 0 0 5", "put 0 0 1", "bound 0 0 3", "bound 0 0 0", "bound 0 1 9", "drawn 0 1",
        "face 2"};
    static final String TWO_FACES = "c2;e012;e113;e011;f2bb;f1bB;";

    @Caller.Says("8 at most are kept, of more the oldest is forgotten;")
    static void eachActAsTheNinth() {
        for (String act : EACH_ACT) {
            Caller o = Caller.reads(TWO_FACES).does("put 2 0 9");
            String oldest = o.cellsAndChains();
            for (int e = 0; e < 7; e++) {
                o.does("put 2 1 " + e);
            }
            o.is("count 3", 8).does("tape bbb", act).is("count 3", 8);
            for (int left = 7; left >= 0; left--) {
                o.is("undo", left);
            }
            o.all(STATE, "undo", "undo");
            Caller.same("what is there behind all undone, " + act + " being the ninth", o.cellsAndChains(), oldest);
        }
    }

    @Caller.Says("a WEIGHT told anew (as it was, too), an EDGE, a FACE more or gone, a number of a CHAIN put, a CHAIN bounded, drawn.")
    static void eachAct() {
        for (String act : EACH_ACT) {
            Caller o = Caller.reads(TWO_FACES).chain(0, 1, 2, 3).chain(1, 9, 8, 7);
            if (act.startsWith("face")) {
                o.tape("bbb");
            }
            String before = o.cellsAndChains();
            o.does(act).is("count 3", 7).is("undo", 6);
            Caller.same("what is there behind undo of " + act, o.cellsAndChains(), before);
            for (int left = 5; left >= 0; left--) {
                o.is("undo", left);
            }
            o.is("undo", STATE);
        }
        Caller p = Caller.reads("c1;").is("drawn 0 1", 0).is("drawn 0 1", 0).is("count 3", 2).is("undo", 1).is("undo", 0);
        for (String none : new String[] {"image 0", "fault", "cell 0 0 0", "count 3", "rank 1 0", "ends 0 0", "feed 1", "trees 1 1"}) {
            p.does(none).is("count 3", 0);
        }
    }

    @Caller.Says("DRAWN by a SEED (X at first): for each EDGE, rising: X becomes what X times 16807 leaves by 2147483647; its number is what X leaves by 19, less 9.")
    static void draws() {
        Caller o = Caller.reads(SIX).is("drawn 0 1", 5).chainIs(0, 2, -2, -1, 8, 0, 4).is("drawn 0 999999", notZero(999999));
        long x = 999999;
        for (int e = 0; e < 6; e++) {
            x = x * 16807 % 2147483647L;
            o.is("chain 0 " + e, x % 19 - 9);
        }
        o.all(BAD, "drawn 0 0", "drawn 0 1000000", "drawn 0 -1", "drawn 0 " + LOW, "drawn 0 " + HIGH);
        Caller p = Caller.reads("c1;e001;");
        boolean least = false;
        boolean greatest = false;
        for (int seed = 1; seed <= 60; seed++) {
            long number = seed * 16807L % 2147483647L % 19 - 9;
            least |= number == -9;
            greatest |= number == 9;
            p.is("drawn 1 " + seed, number == 0 ? 0 : 1).is("chain 1 0", number);
        }
        Caller.same("the least and the greatest number were drawn", least && greatest, true);
    }

    static int notZero(long seed) {
        long x = seed;
        int many = 0;
        for (int e = 0; e < 6; e++) {
            x = x * 16807 % 2147483647L;
            many += x % 19 != 9 ? 1 : 0;
        }
        return many;
    }
}
