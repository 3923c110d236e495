import java.util.ArrayList;
import java.util.Arrays;
import java.util.List;

/**
 * What is refused changes nothing: each refused call is made on an object and not on its twin, and
 * then all that can be seen of both must be the same: cells, chains, counts, the latest FAULT, what
 * each ACT undoes, what both IMAGES kept, what is read from the tape. The same for the calls that
 * only tell something.
 */
public final class RefusalsTest {
    static final int BAD = Caller.BAD, STATE = Caller.STATE, FULL = Caller.FULL;
    static final int LOW = Caller.LOW, HIGH = Caller.HIGH;
    /** No COMPLEX; a tape. */
    static final String[] BARE = {"tape c2;e012;"};
    /** A FAULT of number 3, a COMPLEX of 2 points, 2 edges and a face, both IMAGES, 8 ACTS, a tape. */
    static final String[] RICH = {"tape c1;e001;f1a;f1a;f1a;f1a;f", "complex", "tape c2;e101;e003;f2bb;", "complex",
        "put 0 0 4", "image 0", "weigh 2 0 3", "put 1 1 -9", "image 1", "bound 2 0 1", "drawn 0 77", "edge 1 1 2", "drop 1 2",
        "put 0 1 9", "weigh 1 0 2", "tape c2;e012;"};
    /** RICH, but that no ACT can be undone. */
    static final String[] NO_ACTS = with(RICH, "undo", "undo", "undo", "undo", "undo", "undo", "undo", "undo");
    /** No IMAGE is kept. */
    static final String[] NO_IMAGES = {"tape c2;e101;e003;f2bb;", "complex", "put 0 0 4", "weigh 2 0 3", "tape c1;"};
    static final String[] FULL_EDGES = {"tape c1;e001;e002;e003;e001;e002;e003;", "complex", "put 1 5 9", "image 1",
        "weigh 1 0 3", "put 1 5 8", "tape c2;e012;"};
    static final String[] FULL_FACES = {"tape c1;e001;f1a;f2aa;f3A;f1aA;", "complex", "put 1 0 9", "image 1", "weigh 2 0 3",
        "put 1 0 8", "bound 0 1 3"};
    static final String[] FULL_TAPE = with(RICH, "tape " + "e001;".repeat(16) + "f1");

    public static void main(String[] args) throws ReflectiveOperationException {
        Caller.runAll(RefusalsTest.class);
    }

    static String[] with(String[] first, String... behind) {
        String[] all = Arrays.copyOf(first, first.length + behind.length);
        System.arraycopy(behind, 0, all, first.length, behind.length);
        return all;
    }

    // ---- twins

    /** All that can be seen, and then what one way of looking behind it shows, which changes the object. */
    static List<String> seen(Caller o, int way, boolean withFault) {
        List<String> seen = new ArrayList<>();
        seen.add(o.sight(withFault));
        if (way == 1) {
            for (String restore : List.of("restore 0", "restore 1")) {
                seen.add(restore + " = " + o.answer(restore) + ", then " + o.sight(withFault));
            }
        } else if (way == 2) {
            seen.add("complex = " + o.answer("complex") + ", then " + o.sight(true));
        } else {
            for (int i = 1; way == 3 && i <= 4; i++) {
                seen.add("put 0 0 " + i + " = " + o.answer("put 0 0 " + i));
            }
            for (int i = 0; i < 9; i++) {
                seen.add("undo = " + o.answer("undo") + ", then " + o.cellsAndChains());
            }
        }
        return seen;
    }

    static void twins(String[] state, String[] call, String[] twinCall, boolean withFault, Long want) {
        for (int way = 0; way < 4; way++) {
            Caller o = new Caller().does(state);
            for (int i = 0; i + 1 < call.length; i++) {
                o.does(call[i]);
            }
            String last = call[call.length - 1];
            if (want == null) {
                o.does(last);
            } else {
                o.is(last, want);
            }
            Caller twin = new Caller().does(state).does(twinCall);
            List<String> got = seen(o, way, withFault);
            List<String> due = seen(twin, way, withFault);
            for (int i = 0; i < due.size(); i++) {
                if (!Caller.same("behind " + String.join(", ", call) + " in " + String.join(", ", state), got.get(i), due.get(i))) {
                    return;
                }
            }
        }
    }

    /** Calls that are refused and change nothing. */
    static void refused(String[] state, long want, String... calls) {
        for (String call : calls) {
            twins(state, new String[] {call}, new String[0], true, want);
        }
    }

    /** Calls that are not refused and change nothing. */
    static void tells(String[] state, String... calls) {
        for (String call : calls) {
            twins(state, new String[] {call}, new String[0], true, null);
        }
    }

    /** A WORD that is refused: all stays, but the tape is empty. The state has an empty tape. */
    static void unsewn(String[] state, String word, int w, long want) {
        String[] call = word.isEmpty() ? new String[] {"face " + w} : new String[] {"tape " + word, "face " + w};
        twins(state, call, new String[0], true, want);
    }

    /** A text that has a FAULT: all stays, but the tape is empty and fault() tells this one. */
    static void unread(String[] state, String text, int place, int number) {
        String[] call = text.isEmpty() ? new String[] {"complex"} : new String[] {"tape " + text, "complex"};
        twins(state, call, new String[0], false, -1000100L - place);
        new Caller().does(state).does(call).is("fault", number).is("count 4", 0);
    }

    static String[] emptied(String[] state) {
        return Arrays.copyOf(state, state.length - 1);
    }

    // ---- what is told

    @Caller.Says("A byte (0 to 255) comes behind the tape: how many it has. BAD; FULL.")
    static void feed() {
        for (String[] state : List.of(BARE, RICH, FULL_TAPE)) {
            refused(state, BAD, "feed -1", "feed 256", "feed " + LOW, "feed " + HIGH);
        }
        refused(FULL_TAPE, FULL, "feed 0", "feed 59", "feed 255");
    }

    @Caller.Says("-1000100 less the place of a FAULT: all stays, but the tape is empty then, and fault() tells this one.")
    static void complex() {
        for (String[] state : List.of(emptied(BARE), emptied(RICH), emptied(FULL_EDGES), FULL_FACES, emptied(NO_IMAGES))) {
            unread(state, "", 0, 1);
            unread(state, "c", 1, 1);
            unread(state, "c6", 1, 2);
            unread(state, "c1;e001;e001;e002", 17, 1);
            unread(state, "c1;e001;e001;e004", 16, 2);
            unread(state, "c1;e001;e001;e001;e001;e001;e001;e", 33, 3);
            unread(state, "c1;e001;f2a;f2aaaaa;", 18, 2);
            unread(state, "c1;e001;f2a;f2A;f2a;f2A;f", 24, 3);
        }
        unread(emptied(RICH), "c2;e012;" + "e001;".repeat(16) + "f1", 33, 3);
        unread(emptied(RICH), "c2;" + "x".repeat(87), 3, 1);
    }

    @Caller.Says("The latest ACT is undone: how many can be undone yet. STATE: none.")
    static void undo() {
        refused(BARE, STATE, "undo");
        refused(NO_ACTS, STATE, "undo");
        refused(with(RICH, "restore 0"), STATE, "undo");
        refused(with(RICH, "complex", "tape c1;"), STATE, "undo");
    }

    // ---- what is done

    @Caller.Says("The WEIGHT of an EDGE (dim = 1), a FACE (2) is w: what it was. BAD (no COMPLEX, too).")
    static void weigh() {
        refused(BARE, BAD, "weigh 1 0 1", "weigh 2 0 1");
        refused(RICH, BAD, "weigh 0 0 1", "weigh 3 0 1", "weigh -1 0 1", "weigh 1 -1 1", "weigh 1 2 1", "weigh 2 -1 1",
            "weigh 2 1 1", "weigh 1 0 0", "weigh 1 0 4", "weigh 2 0 0", "weigh 2 0 4", "weigh 1 " + HIGH + " 1", "weigh 1 0 " + LOW);
    }

    @Caller.Says("An EDGE more: its number. BAD; STATE: no COMPLEX (ahead of BAD); FULL: 6.")
    static void edge() {
        refused(BARE, STATE, "edge 0 0 1", "edge 0 0 0", "edge -1 7 9");
        refused(RICH, BAD, "edge -1 0 1", "edge 2 0 1", "edge 0 -1 1", "edge 0 2 1", "edge 0 0 0", "edge 0 0 4", "edge " + LOW + " 0 1");
        refused(FULL_EDGES, FULL, "edge 0 0 1", "edge 0 0 3");
        refused(FULL_EDGES, BAD, "edge 1 0 1", "edge 0 1 1", "edge 0 0 0", "edge 0 0 4");
    }

    @Caller.Says("its WORD being the tape, that is empty then in any case")
    static void face() {
        for (String word : new String[] {"", "a", "aA", "~", "c1;"}) {
            unsewn(emptied(BARE), word, 1, STATE);
            unsewn(emptied(BARE), word, 0, STATE);
        }
        for (String word : new String[] {"", "a", "A", "ab", "bbbbb", "c", "z", "b;", "b,", "2", "f1b;", "c1;", "b".repeat(90)}) {
            unsewn(emptied(RICH), word, 1, BAD);
        }
        for (int w : new int[] {0, 4, -1, LOW, HIGH}) {
            unsewn(emptied(RICH), "b", w, BAD);
        }
        unsewn(FULL_FACES, "a", 1, FULL);
        unsewn(FULL_FACES, "AAAA", 3, FULL);
        unsewn(FULL_FACES, "", 1, BAD);
        unsewn(FULL_FACES, "b", 1, BAD);
        unsewn(FULL_FACES, "a", 4, BAD);
        unsewn(FULL_FACES, "a", 0, BAD);
    }

    @Caller.Says("BAD (no COMPLEX, too); STATE: an EDGE that is in some WORD.")
    static void drop() {
        refused(BARE, BAD, "drop 1 0", "drop 2 0");
        refused(RICH, BAD, "drop 0 0", "drop 3 0", "drop -1 0", "drop 1 -1", "drop 1 2", "drop 2 -1", "drop 2 1", "drop " + LOW + " 0");
        refused(RICH, STATE, "drop 1 1");
        refused(FULL_FACES, STATE, "drop 1 0");
        refused(NO_IMAGES, STATE, "drop 1 1");
    }

    @Caller.Says("The number of an EDGE in a CHAIN is v (-9 to 9): what it was. BAD (no COMPLEX, too).")
    static void put() {
        refused(BARE, BAD, "put 0 0 0");
        refused(RICH, BAD, "put -1 0 1", "put 3 0 1", "put 0 -1 1", "put 0 2 1", "put 0 0 -10", "put 0 0 10", "put 0 0 " + HIGH,
            "put " + LOW + " 0 1");
    }

    @Caller.Says("FULL: a number would be beyond -9 to 9.")
    static void bound() {
        refused(BARE, BAD, "bound 0 0 0");
        refused(RICH, BAD, "bound -1 0 1", "bound 3 0 1", "bound 0 -1 1", "bound 0 1 1", "bound 1 0 10", "bound 1 0 -10",
            "bound 0 0 " + HIGH, "bound 0 0 " + LOW);
        refused(RICH, FULL, "bound 0 0 1", "bound 0 0 9", "bound 1 0 -1", "bound 2 0 9", "bound 2 0 4", "bound 2 0 -6");
        String[] state = {"tape c1;e001;e001;e001;f1aBc;", "complex", "put 0 0 3", "put 0 1 -8", "put 0 2 2", "image 0", "tape c1;"};
        refused(state, FULL, "bound 0 0 2", "bound 0 0 7", "bound 0 0 9");
    }

    @Caller.Says("A CHAIN is DRAWN by a SEED (1 to 999999): how many EDGES have other numbers than 0 in it. BAD; STATE: no COMPLEX (ahead of BAD).")
    static void drawn() {
        refused(BARE, STATE, "drawn 0 1", "drawn 3 1", "drawn 0 0");
        refused(RICH, BAD, "drawn -1 1", "drawn 3 1", "drawn 0 0", "drawn 0 1000000", "drawn 0 -1", "drawn 0 " + HIGH);
    }

    // ---- images

    @Caller.Says("An IMAGE (0, 1) is kept of the COMPLEX and all CHAINS: 1. BAD; STATE: no COMPLEX.")
    static void image() {
        refused(BARE, STATE, "image 0", "image 1");
        refused(BARE, BAD, "image -1", "image 2");
        refused(RICH, BAD, "image -1", "image 2", "image " + LOW, "image " + HIGH);
    }

    @Caller.Says("All is as an IMAGE kept it (no ACT can be undone then): 1. BAD; STATE: none was kept.")
    static void restore() {
        refused(BARE, STATE, "restore 0", "restore 1");
        refused(BARE, BAD, "restore -1", "restore 2");
        refused(RICH, BAD, "restore -1", "restore 2", "restore " + LOW, "restore " + HIGH);
        refused(NO_IMAGES, STATE, "restore 0", "restore 1");
        refused(FULL_EDGES, STATE, "restore 0");
    }

    // ---- what only tells

    @Caller.Says("What is refused changes nothing (but the tape, as told).")
    static void refusedTelling() {
        refused(RICH, BAD, "cell 0 0 0", "cell 3 0 0", "cell 1 2 0", "cell 2 1 0", "cell 1 0 3", "cell 1 0 10", "cell 2 0 14",
            "as 3 0 0", "as 0 2 0", "as 0 0 6", "table 0 0 0", "table 3 0 0", "table 1 2 0", "table 1 0 2", "table 2 2 0",
            "table 2 0 1", "near 3 0 0", "near 0 2 0", "near 1 0 2", "near 2 2 0");
        refused(RICH, BAD, "rank 0 0", "rank 1 4", "holes 3 0", "holes 0 1", "twist 2 0", "twist 1 -1", "chain 3 0", "chain 0 2",
            "ends 3 0", "ends 0 2", "whole 3 0", "whole 0 3", "part 3 0 0 0", "part 0 3 0 0", "part 0 0 2 0", "part 0 0 0 2",
            "length 3 0 0", "length 0 4 0", "length 0 0 2", "share 3 0", "share 0 3", "trees 0 0", "trees 3 0", "trees 1 2",
            "minors -1", "minors 3", "count -1", "count 5");
        refused(with(RICH, "put 0 0 0", "put 0 1 0"), STATE, "share 0 0");
        refused(with(RICH, "put 0 0 0", "put 0 1 0"), BAD, "share 0 3");
        refused(BARE, STATE, "rank 1 0", "holes 0 0", "twist 0 0", "whole 0 0", "length 0 0 0", "share 0 0", "trees 1 0", "minors 0");
        refused(BARE, STATE, "rank 9 9", "holes 9 9", "twist 9 9", "whole 9 9", "length 9 9 9", "share 9 9", "trees 9 9", "minors 9");
        refused(BARE, BAD, "cell 1 0 0", "as 0 0 0", "table 1 0 0", "near 0 0 0", "chain 0 0", "ends 0 0", "part 0 0 0 0", "count 5");
    }

    @Caller.Says("Nothing is promised beyond the answers and state changes described above")
    static void telling() {
        for (String[] state : List.of(RICH, FULL_EDGES, FULL_FACES)) {
            tells(state, "fault", "cell 1 0 2", "as 1 0 3", "table 1 0 0", "near 0 0 0", "near 1 0 0", "near 2 0 0", "rank 1 0",
                "rank 2 2", "holes 1 3", "twist 0 0", "twist 1 1", "chain 1 0", "ends 0 0", "whole 0 0", "whole 0 1", "whole 0 2",
                "part 0 0 0 0", "part 0 1 0 1", "part 1 2 0 0", "length 1 0 0", "length 1 1 1", "length 1 2 0", "length 1 3 1",
                "share 1 2", "trees 1 1", "trees 2 1", "minors 0", "minors 1", "minors 2", "count 3");
        }
    }

    @Caller.Says("IMAGES stay.")
    static void actsLeaveTheTapeAndTheImages() {
        for (String act : new String[] {"weigh 1 0 3", "edge 0 1 1", "drop 2 0", "drop 1 0", "put 0 0 1", "bound 1 0 1", "drawn 0 5"}) {
            Caller o = new Caller().does(RICH);
            o.does(act).is("count 4", 8).is("count 3", 8).is("fault", 3).is("undo", 7).is("count 4", 8);
            o.is("restore 0", 1).chainIs(0, 4, 0).is("cell 2 0 0", 2).is("count 4", 8).is("restore 1", 1).chainIs(1, 0, -9)
                .is("cell 2 0 0", 3).is("fault", 3).is("complex", 3).is("count 0", 2).is("restore 0", 1).chainIs(0, 4, 0);
        }
    }
}
