import java.util.function.LongSupplier;

/** Each promise of the document by its number: ordinary inputs, edges, wrong inputs. */
public final class PromisesTest {
    static final int NONE = ChainParts.NONE, BAD = ChainParts.BAD, STATE = ChainParts.STATE, FULL = ChainParts.FULL;
    /** A triangle that is filled, and an own loop of point 0 to which a face goes twice. */
    static final String TRIANGLE = "c3;e011;e122;e203;e001;f1abc;f2dd;";
    static final int LOW = Integer.MIN_VALUE, HIGH = Integer.MAX_VALUE;
    static int wrong = 0, asked = 0, promise = 0;

    static void due(String call, LongSupplier answer, long want) {
        asked++;
        String got;
        try {
            long a = answer.getAsLong();
            if (a == want) {
                return;
            }
            got = "answered " + a;
        } catch (RuntimeException e) {
            got = "threw " + e;
        }
        wrong++;
        System.out.println("promise " + promise + ": " + call + " " + got + ", due is " + want);
    }

    static void feed(ChainParts x, String text) {
        for (int i = 0; i < text.length(); i++) {
            x.feed(text.charAt(i));
        }
    }

    static ChainParts read(String text) {
        ChainParts x = new ChainParts();
        feed(x, text);
        due("complex of " + text, () -> x.complex() > 0 ? 1 : 0, 1);
        return x;
    }

    static void chain(ChainParts x, int chain, int... numbers) {
        for (int e = 0; e < numbers.length; e++) {
            x.put(chain, e, numbers[e]);
        }
    }

    static void faultOf(String text, int place, int fault) {
        ChainParts x = new ChainParts();
        feed(x, text);
        due("complex of " + text, x::complex, -1000100 - place);
        due("fault of " + text, x::fault, fault);
        due("bytes behind " + text, () -> x.count(4), 0);
        due("points behind " + text, () -> x.count(0), 0);
    }

    public static void main(String[] args) {
        promise = 1;
        newObject();
        promise = 2;
        feed();
        promise = 3;
        complex();
        promise = 4;
        fault();
        promise = 5;
        undo();
        promise = 6;
        weigh();
        promise = 7;
        edge();
        promise = 8;
        face();
        promise = 9;
        drop();
        promise = 10;
        put();
        promise = 11;
        bound();
        promise = 12;
        drawn();
        promise = 13;
        cell();
        promise = 14;
        as();
        promise = 15;
        table();
        promise = 16;
        near();
        promise = 17;
        rank();
        promise = 18;
        holes();
        promise = 19;
        twist();
        promise = 20;
        chainNumbers();
        promise = 21;
        ends();
        promise = 22;
        whole();
        promise = 23;
        part();
        promise = 24;
        length();
        promise = 25;
        share();
        promise = 26;
        trees();
        promise = 27;
        minors();
        promise = 28;
        image();
        promise = 29;
        restore();
        promise = 30;
        count();
        System.out.println(asked + " answers asked for, " + wrong + " wrong");
        if (wrong != 0) {
            System.exit(1);
        }
    }

    static void newObject() {
        ChainParts x = new ChainParts();
        for (int what = 0; what < 5; what++) {
            int w = what;
            due("count " + w, () -> x.count(w), 0);
        }
        due("undo", x::undo, STATE);
        due("fault", x::fault, 0);
        due("weigh", () -> x.weigh(1, 0, 1), BAD);
        due("edge", () -> x.edge(0, 0, 1), STATE);
        due("face", () -> x.face(1), STATE);
        due("drop", () -> x.drop(2, 0), BAD);
        due("put", () -> x.put(0, 0, 0), BAD);
        due("bound", () -> x.bound(0, 0, 0), BAD);
        due("drawn", () -> x.drawn(0, 1), STATE);
        due("cell", () -> x.cell(2, 0, 0), BAD);
        due("as", () -> x.as(0, 0, 0), BAD);
        due("table", () -> x.table(2, 0, 0), BAD);
        due("near", () -> x.near(0, 0, 0), BAD);
        due("rank", () -> x.rank(1, 0), STATE);
        due("holes", () -> x.holes(0, 0), STATE);
        due("twist", () -> x.twist(0, 0), STATE);
        due("chain", () -> x.chain(0, 0), BAD);
        due("ends", () -> x.ends(0, 0), BAD);
        due("whole", () -> x.whole(0, 0), STATE);
        due("part", () -> x.part(0, 0, 0, 0), BAD);
        due("length", () -> x.length(0, 0, 0), STATE);
        due("share", () -> x.share(0, 0), STATE);
        due("trees", () -> x.trees(1, 0), STATE);
        due("minors", () -> x.minors(0), STATE);
        due("image", () -> x.image(1), STATE);
        due("restore", () -> x.restore(1), STATE);
        due("the end of no byte", x::complex, -1000100);
    }

    static void feed() {
        ChainParts x = new ChainParts();
        due("feed -1", () -> x.feed(-1), BAD);
        due("feed 256", () -> x.feed(256), BAD);
        due("feed low", () -> x.feed(LOW), BAD);
        for (int i = 1; i <= 90; i++) {
            int n = i;
            due("feed " + n, () -> x.feed(n == 1 ? 0 : 255), n);
        }
        due("the 91st", () -> x.feed(97), FULL);
        due("BAD ahead of FULL", () -> x.feed(256), BAD);
        due("bytes", () -> x.count(4), 90);
        due("byte 0 is no token", x::complex, -1000100);
        due("again", () -> x.feed(97), 1);
    }

    static void complex() {
        ChainParts x = read(TRIANGLE);
        chain(x, 1, 1, 2, 3, 4);
        due("acts", () -> x.count(3), 4);
        x.image(0);
        feed(x, "c2;e012;");
        due("another", x::complex, 3);
        due("acts are gone", () -> x.count(3), 0);
        due("undo", x::undo, STATE);
        due("chains are 0", () -> x.chain(1, 0), 0);
        due("tape", () -> x.count(4), 0);
        feed(x, "c9;");
        x.put(2, 0, 5);
        due("a fault", x::complex, -1000101);
        due("all stays", () -> x.chain(2, 0), 5);
        due("acts stay", () -> x.count(3), 1);
        due("edges stay", () -> x.count(1), 1);
        due("the image stays", () -> x.restore(0), 1);
        due("the image has it", () -> x.chain(1, 3), 4);
        due("points alone", () -> {
            feed(x, "c5;");
            return x.complex();
        }, 5);
        due("faces", () -> {
            feed(x, "c1;e001;e001;e001;e001;e001;e001;f1aAbB;f2ABCD;f3f;f1fF;");
            return x.complex();
        }, 11);
    }

    static void fault() {
        faultOf("", 0, 1);
        faultOf("C3;", 0, 1);
        faultOf(" c3;", 0, 1);
        faultOf("c", 1, 1);
        faultOf("ca", 1, 1);
        faultOf("c0;", 1, 2);
        faultOf("c6;", 1, 2);
        faultOf("c9", 1, 2);
        faultOf("c3", 2, 1);
        faultOf("c3,", 2, 1);
        faultOf("c3;;", 3, 1);
        faultOf("c3;g", 3, 1);
        faultOf("c3;E001;", 3, 1);
        faultOf("c3;e", 4, 1);
        faultOf("c3;ea", 4, 1);
        faultOf("c3;e3", 4, 2);
        faultOf("c3;e03", 5, 2);
        faultOf("c3;e0 1", 5, 1);
        faultOf("c3;e010;", 6, 2);
        faultOf("c3;e014;", 6, 2);
        faultOf("c3;e01;", 6, 1);
        faultOf("c3;e0111", 7, 1);
        faultOf("c3;e011", 7, 1);
        String six = "c1;e001;e001;e001;e001;e001;e001;";
        faultOf(six + "e", 33, 3);
        faultOf(six + "f1a;f1b;f1c;f1d;f", 49, 3);
        faultOf(six + "f1a;e", 37, 1);
        faultOf(six + "f1g;", 35, 2);
        faultOf(six + "f1G;", 35, 2);
        faultOf(six + "f1z;", 35, 2);
        faultOf(six + "f1aZ;", 36, 2);
        faultOf(six + "f0a;", 34, 2);
        faultOf(six + "f4a;", 34, 2);
        faultOf(six + "fa;", 34, 1);
        faultOf(six + "f1;", 35, 1);
        faultOf(six + "f12;", 35, 1);
        faultOf(six + "f1a,", 36, 1);
        faultOf(six + "f1a1;", 36, 1);
        faultOf(six + "f1abcd", 39, 1);
        faultOf(six + "f1abcde;", 39, 2);
        faultOf(six + "f1abcd1", 39, 1);
        faultOf("c2;e011;f1a;", 11, 2);
        faultOf("c2;e011;f1aa;", 11, 2);
        faultOf("c2;e011;f1A;", 11, 2);
        faultOf("c2;e011;f1a", 11, 1);
        faultOf("c3;e011;e121;f1bA", 16, 2);
        faultOf("c3;e011;e121;f1abA", 17, 2);
        ChainParts x = read("c1;");
        due("none yet", x::fault, 0);
        feed(x, "c1;e");
        x.complex();
        due("the end", x::fault, 1);
        feed(x, "c1;e1");
        x.complex();
        due("the latest", x::fault, 2);
        feed(x, "c1;");
        x.complex();
        due("it stays", x::fault, 2);
        feed(x, "1");
        due("no word", () -> x.face(1), BAD);
        due("which is no fault of a complex", x::fault, 2);
    }

    static void undo() {
        ChainParts x = read(TRIANGLE);
        for (int i = 1; i <= 9; i++) {
            x.put(0, 0, i);
        }
        due("8 at most", () -> x.count(3), 8);
        for (int i = 7; i >= 0; i--) {
            int left = i;
            due("undo", x::undo, left);
            due("the number ahead", () -> x.chain(0, 0), left + 1);
        }
        due("the oldest is forgotten", x::undo, STATE);
        due("it stays", () -> x.chain(0, 0), 1);
        chain(x, 0, 1, 2, 3, 4);
        feed(x, "D");
        x.face(3);
        x.drop(2, 0);
        x.drop(1, 0);
        due("dropped", () -> x.count(1), 3);
        due("undo", x::undo, 6);
        due("undo", x::undo, 5);
        due("the face is back", () -> x.cell(2, 0, 11), 'b');
        due("the edge is back", () -> x.cell(1, 0, 2), 1);
        due("and its number", () -> x.chain(0, 0), 1);
        feed(x, "ab");
        due("undo of a face", x::undo, 4);
        due("faces", () -> x.count(2), 2);
        due("the tape is as it was", () -> x.count(4), 2);
        x.edge(2, 2, 2);
        due("a refusal is no act", () -> x.weigh(1, 4, 4), BAD);
        due("undo of an edge", x::undo, 4);
        due("edges", () -> x.count(1), 4);
        x.weigh(1, 0, 3);
        x.bound(1, 0, 2);
        x.drawn(2, 9);
        due("undo of drawn", x::undo, 6);
        due("number", () -> x.chain(2, 0), 0);
        due("undo of bound", x::undo, 5);
        due("number", () -> x.chain(1, 0), 0);
        due("undo of weigh", x::undo, 4);
        due("weight", () -> x.cell(1, 0, 0), 1);
    }

    static void weigh() {
        ChainParts x = read(TRIANGLE);
        due("edge", () -> x.weigh(1, 2, 1), 3);
        due("again", () -> x.weigh(1, 2, 1), 1);
        due("acts, also of no change", () -> x.count(3), 2);
        due("face", () -> x.weigh(2, 1, 3), 2);
        due("weight", () -> x.cell(2, 1, 0), 3);
        due("the edge with that number", () -> x.cell(1, 1, 0), 2);
        for (int[] a : new int[][] {{0, 0, 1}, {3, 0, 1}, {-1, 0, 1}, {1, 4, 1}, {1, -1, 1}, {2, 2, 1}, {2, -1, 1},
            {1, 0, 0}, {1, 0, 4}, {LOW, 0, 1}, {1, HIGH, 1}, {2, LOW, 1}, {1, 0, HIGH}}) {
            due("weigh " + a[0] + " " + a[1] + " " + a[2], () -> x.weigh(a[0], a[1], a[2]), BAD);
        }
        due("acts", () -> x.count(3), 3);
    }

    static void edge() {
        ChainParts x = read("c2;e011;");
        x.put(0, 0, 7);
        due("one more", () -> x.edge(1, 0, 2), 1);
        due("from", () -> x.cell(1, 1, 1), 1);
        due("to", () -> x.cell(1, 1, 2), 0);
        due("weight", () -> x.cell(1, 1, 0), 2);
        due("number", () -> x.chain(0, 1), 0);
        due("a loop", () -> x.edge(1, 1, 3), 2);
        for (int[] a : new int[][] {{2, 0, 1}, {0, 2, 1}, {-1, 0, 1}, {0, -1, 1}, {0, 0, 0}, {0, 0, 4}, {HIGH, LOW, 1}}) {
            due("edge " + a[0] + " " + a[1] + " " + a[2], () -> x.edge(a[0], a[1], a[2]), BAD);
        }
        x.put(1, 2, 4);
        x.drop(1, 2);
        due("in place of one that is gone", () -> x.edge(0, 0, 1), 2);
        due("its number is 0", () -> x.chain(1, 2), 0);
        due("edge 3", () -> x.edge(0, 0, 1), 3);
        due("edge 4", () -> x.edge(0, 0, 1), 4);
        due("edge 5", () -> x.edge(0, 0, 1), 5);
        due("full", () -> x.edge(0, 0, 1), FULL);
        due("BAD ahead of FULL", () -> x.edge(0, 2, 1), BAD);
        due("acts", () -> x.count(3), 8);
    }

    static void sewn(ChainParts x, String word, int w, long want) {
        feed(x, word);
        due("face " + w + " of " + word, () -> x.face(w), want);
        due("the tape is empty", () -> x.count(4), 0);
    }

    static void face() {
        ChainParts x = new ChainParts();
        sewn(x, "a", 9, STATE);
        feed(x, "c3;e011;e122;e203;");
        x.complex();
        sewn(x, "", 1, BAD);
        sewn(x, "abc", 0, BAD);
        sewn(x, "abc", 4, BAD);
        sewn(x, "abc;", 1, BAD);
        sewn(x, "ab", 1, BAD);
        sewn(x, "acb", 1, BAD);
        sewn(x, "aAaAa", 1, BAD);
        sewn(x, "dD", 1, BAD);
        sewn(x, "zZ", 1, BAD);
        sewn(x, "a1", 1, BAD);
        sewn(x, "aa", 1, BAD);
        due("no act", () -> x.count(3), 0);
        sewn(x, "bca", 2, 0);
        due("weight", () -> x.cell(2, 0, 0), 2);
        due("begin", () -> x.cell(2, 0, 2), 1);
        sewn(x, "CBA", 1, 1);
        due("begin of a letter backward", () -> x.cell(2, 1, 2), 0);
        sewn(x, "aAaA", 1, 2);
        sewn(x, "Aa", 3, 3);
        sewn(x, "Aa", 3, FULL);
        sewn(x, "ab", 3, BAD);
        sewn(x, "Aa", 0, BAD);
        due("acts", () -> x.count(3), 4);
    }

    static void drop() {
        ChainParts x = read("c3;e011;e112;e123;e203;f1acd;f2bB;f3DCA;");
        chain(x, 0, 1, 2, 3, 4);
        chain(x, 2, 5, 6, 7, 8);
        due("in a word", () -> x.drop(1, 1), STATE);
        due("in a word, backward", () -> x.drop(1, 3), STATE);
        due("acts", () -> x.count(3), 8);
        due("the face", () -> x.drop(2, 1), 2);
        due("the one behind it", () -> x.cell(2, 1, 10), 'D');
        due("its weight", () -> x.cell(2, 1, 0), 3);
        due("the edge", () -> x.drop(1, 1), 3);
        due("behind it: from", () -> x.cell(1, 1, 1), 1);
        due("behind it: to", () -> x.cell(1, 1, 2), 2);
        due("behind it: weight", () -> x.cell(1, 1, 0), 3);
        due("in words", () -> x.cell(2, 0, 11), 'b');
        due("in words", () -> x.cell(2, 0, 12), 'c');
        due("in words, ahead of it", () -> x.cell(2, 0, 10), 'a');
        due("in words, backward", () -> x.cell(2, 1, 10), 'C');
        due("in words, backward", () -> x.cell(2, 1, 11), 'B');
        due("in words, backward", () -> x.cell(2, 1, 12), 'A');
        due("in chains", () -> x.chain(0, 1), 3);
        due("in chains", () -> x.chain(2, 2), 8);
        due("in chains, ahead of it", () -> x.chain(2, 0), 5);
        due("in chains, no more", () -> x.chain(2, 3), BAD);
        for (int[] a : new int[][] {{0, 0}, {3, 0}, {1, 3}, {1, -1}, {2, 2}, {2, -1}, {LOW, HIGH}, {1, LOW}, {2, HIGH}}) {
            due("drop " + a[0] + " " + a[1], () -> x.drop(a[0], a[1]), BAD);
        }
        due("all", () -> x.drop(2, 0), 1);
        due("all", () -> x.drop(2, 0), 0);
        due("all", () -> x.drop(1, 2), 2);
        due("all", () -> x.drop(1, 0), 1);
        due("all", () -> x.drop(1, 0), 0);
        due("none left", () -> x.drop(1, 0), BAD);
    }

    static void put() {
        ChainParts x = read(TRIANGLE);
        due("what it was", () -> x.put(2, 3, -9), 0);
        due("what it was", () -> x.put(2, 3, 9), -9);
        due("the same", () -> x.put(2, 3, 9), 9);
        due("acts", () -> x.count(3), 3);
        due("of another chain", () -> x.chain(1, 3), 0);
        for (int[] a : new int[][] {{-1, 0, 0}, {3, 0, 0}, {0, -1, 0}, {0, 4, 0}, {0, 0, 10}, {0, 0, -10}, {HIGH, LOW, 0},
            {0, 0, LOW}, {LOW, 0, 0}, {0, HIGH, 0}}) {
            due("put " + a[0] + " " + a[1] + " " + a[2], () -> x.put(a[0], a[1], a[2]), BAD);
        }
    }

    static void bound() {
        ChainParts x = read("c1;e001;e002;f1abAb;f2aaaa;f1aA;");
        due("twice", () -> x.bound(0, 0, 2), 1);
        due("number", () -> x.chain(0, 1), 4);
        due("number", () -> x.chain(0, 0), 0);
        due("beyond", () -> x.bound(0, 0, 3), FULL);
        due("beyond, below", () -> x.bound(0, 0, -7), FULL);
        due("it stays", () -> x.chain(0, 1), 4);
        due("acts", () -> x.count(3), 1);
        due("another face", () -> x.bound(0, 1, -2), 2);
        due("number", () -> x.chain(0, 0), -8);
        due("sealed", () -> x.bound(0, 2, 9), 2);
        due("no times", () -> x.bound(0, 1, 0), 2);
        due("back", () -> x.bound(0, 0, -2), 1);
        due("acts", () -> x.count(3), 5);
        for (int[] a : new int[][] {{-1, 0, 0}, {3, 0, 0}, {0, -1, 0}, {0, 3, 0}, {0, 0, 10}, {0, 0, -10}, {0, 2, HIGH},
            {0, 0, LOW}, {HIGH, 0, 0}, {0, LOW, 0}}) {
            due("bound " + a[0] + " " + a[1] + " " + a[2], () -> x.bound(a[0], a[1], a[2]), BAD);
        }
    }

    static void drawn() {
        ChainParts x = read("c1;e001;e001;e001;e001;e001;e001;");
        long seed = 999999;
        due("drawn", () -> x.drawn(1, 999999) >= 0 ? 1 : 0, 1);
        int many = 0;
        for (int e = 0; e < 6; e++) {
            int edge = e;
            seed = seed * 16807 % 2147483647L;
            long want = seed % 19 - 9;
            many += want != 0 ? 1 : 0;
            due("edge " + edge, () -> x.chain(1, edge), want);
        }
        long due = many;
        due("many", () -> x.drawn(1, 999999), due);
        due("of another chain", () -> x.chain(0, 0), 0);
        due("acts", () -> x.count(3), 2);
        due("seed 1", () -> x.drawn(0, 1) * 100 + x.chain(0, 0), 500 + 16807 % 19 - 9);
        for (int[] a : new int[][] {{-1, 1}, {3, 1}, {0, 0}, {0, -1}, {0, 1000000}, {0, LOW}, {HIGH, 1}}) {
            due("drawn " + a[0] + " " + a[1], () -> x.drawn(a[0], a[1]), BAD);
        }
        ChainParts y = read("c2;");
        due("no edges", () -> y.drawn(0, 1), 0);
        due("an act", () -> y.count(3), 1);
    }

    static void cell() {
        ChainParts y = read("c3;e123;e202;f2aAaA;f3Bb;");
        due("weight", () -> y.cell(1, 0, 0), 3);
        due("from", () -> y.cell(1, 0, 1), 1);
        due("to", () -> y.cell(1, 0, 2), 2);
        due("weight of a face", () -> y.cell(2, 1, 0), 3);
        due("letters", () -> y.cell(2, 0, 1), 4);
        due("begin", () -> y.cell(2, 0, 2), 1);
        due("begin backward", () -> y.cell(2, 1, 2), 0);
        due("letter 0", () -> y.cell(2, 0, 10), 'a');
        due("letter 3", () -> y.cell(2, 0, 13), 'A');
        due("letter 1", () -> y.cell(2, 1, 11), 'b');
        due("no letter 2", () -> y.cell(2, 1, 12), NONE);
        due("no letter 3", () -> y.cell(2, 1, 13), NONE);
        for (int[] a : new int[][] {{0, 0, 0}, {3, 0, 0}, {1, 2, 0}, {1, -1, 0}, {2, 2, 0}, {2, -1, 0}, {1, 0, 3}, {2, 0, 3},
            {2, 0, 9}, {2, 0, 14}, {1, 0, 10}, {1, 0, -1}, {2, 0, -1}, {2, 0, HIGH}, {2, 0, LOW}, {LOW, 0, 0}, {1, HIGH, 0}}) {
            due("cell " + a[0] + " " + a[1] + " " + a[2], () -> y.cell(a[0], a[1], a[2]), BAD);
        }
    }

    static void as() {
        ChainParts y = read("c3;e011;e221;f1bbbB;f1aA;f2BbbB;");
        int[][] of = {{0, 2, 0, 1}, {1, 0, 0, 2}, {1, 1, 0, 2, 3}, {2, 0, 0, 4}, {2, 1, 0, 4, 5}, {2, 2, 0, 4, 5}};
        for (int[] a : of) {
            for (int kind = 0; kind < 6; kind++) {
                boolean is = false;
                for (int i = 2; i < a.length; i++) {
                    is |= a[i] == kind;
                }
                int k = kind;
                due("as " + a[0] + " " + a[1] + " " + k, () -> y.as(a[0], a[1], k), is ? a[1] : NONE);
            }
        }
        for (int[] a : new int[][] {{-1, 0, 0}, {3, 0, 0}, {0, 3, 0}, {1, 2, 0}, {2, 3, 0}, {0, -1, 0}, {0, 0, 6}, {0, 0, -1},
            {HIGH, 0, 0}, {0, LOW, 0}, {0, 0, HIGH}}) {
            due("as " + a[0] + " " + a[1] + " " + a[2], () -> y.as(a[0], a[1], a[2]), BAD);
        }
    }

    static void tableIs(ChainParts x, int dim, int[][] want) {
        for (int i = 0; i < want.length; i++) {
            for (int j = 0; j < want[i].length; j++) {
                int r = i, c = j;
                due("table " + dim + " " + r + " " + c, () -> x.table(dim, r, c), want[i][j]);
            }
        }
    }

    static void table() {
        ChainParts x = read("c3;e011;e212;e221;f1cccc;f1aAaA;f2CCcC;f1aBbA;");
        tableIs(x, 1, new int[][] {{-1, 0, 0}, {1, 1, 0}, {0, -1, 0}});
        tableIs(x, 2, new int[][] {{0, 0, 0, 0}, {0, 0, 0, 0}, {4, 0, -2, 0}});
        for (int[] a : new int[][] {{0, 0, 0}, {3, 0, 0}, {1, 3, 0}, {1, 0, 3}, {1, -1, 0}, {1, 0, -1}, {2, 3, 0}, {2, 0, 4},
            {LOW, 0, 0}, {1, HIGH, 0}, {1, 0, LOW}}) {
            due("table " + a[0] + " " + a[1] + " " + a[2], () -> x.table(a[0], a[1], a[2]), BAD);
        }
        due("no face", () -> read("c1;e001;").table(2, 0, 0), BAD);
    }

    static void nearIs(ChainParts x, int which, int[][] want) {
        for (int i = 0; i < want.length; i++) {
            for (int j = 0; j < want[i].length; j++) {
                int r = i, c = j;
                due("near " + which + " " + r + " " + c, () -> x.near(which, r, c), want[i][j]);
            }
        }
    }

    static void near() {
        ChainParts x = read("c3;e012;e123;e203;e001;f2abc;f3ddd;f1Dabc;");
        nearIs(x, 0, new int[][] {{5, -2, -3}, {-2, 5, -3}, {-3, -3, 6}});
        nearIs(x, 1, new int[][] {{2, -1, -1, 0}, {-1, 2, -1, 0}, {-1, -1, 2, 0}, {0, 0, 0, 0}});
        nearIs(x, 2, new int[][] {{3, 3, 3, -1}, {3, 3, 3, -1}, {3, 3, 3, -1}, {-1, -1, -1, 28}});
        for (int[] a : new int[][] {{-1, 0, 0}, {3, 0, 0}, {0, 3, 0}, {0, 0, 3}, {1, 4, 0}, {1, 0, 4}, {2, 4, 0}, {2, 0, -1},
            {HIGH, 0, 0}, {2, LOW, 0}}) {
            due("near " + a[0] + " " + a[1] + " " + a[2], () -> x.near(a[0], a[1], a[2]), BAD);
        }
        ChainParts y = read("c2;");
        due("no edges", () -> y.near(0, 1, 1), 0);
        due("none of edges", () -> y.near(1, 0, 0), BAD);
        due("none of edges", () -> y.near(2, 0, 0), BAD);
    }

    static void rank() {
        ChainParts x = read("c1;e001;e001;e001;e001;f1aa;f1bbb;f1abcc;f1dddd;");
        due("loops", () -> x.rank(1, 0), 0);
        due("fractions", () -> x.rank(2, 0), 4);
        due("by 2", () -> x.rank(2, 2), 2);
        due("by 3", () -> x.rank(2, 3), 3);
        due("by 5", () -> x.rank(2, 5), 4);
        due("by 7", () -> x.rank(2, 7), 4);
        ChainParts y = read("c5;e011;e121;e231;e341;e401;");
        due("round", () -> y.rank(1, 0), 4);
        due("round by 5", () -> y.rank(1, 5), 4);
        due("no faces", () -> y.rank(2, 3), 0);
        for (int[] a : new int[][] {{0, 0}, {3, 0}, {1, 1}, {1, 4}, {1, 6}, {1, 11}, {1, -2}, {2, 8}, {LOW, 2}, {1, HIGH}}) {
            due("rank " + a[0] + " " + a[1], () -> y.rank(a[0], a[1]), BAD);
        }
        due("no edges", () -> read("c1;").rank(1, 0), 0);
    }

    static void holesAre(ChainParts x, int p, int h0, int h1, int h2) {
        due("holes 0 by " + p, () -> x.holes(0, p), h0);
        due("holes 1 by " + p, () -> x.holes(1, p), h1);
        due("holes 2 by " + p, () -> x.holes(2, p), h2);
    }

    static void holes() {
        ChainParts torus = read("c1;e001;e001;f1abAB;");
        ChainParts klein = read("c1;e001;e001;f1abAb;");
        ChainParts third = read("c1;e001;f1aaa;");
        for (int p : new int[] {0, 2, 3, 5, 7}) {
            holesAre(torus, p, 1, 2, 1);
            holesAre(klein, p, 1, p == 2 ? 2 : 1, p == 2 ? 1 : 0);
            holesAre(third, p, 1, p == 3 ? 1 : 0, p == 3 ? 1 : 0);
        }
        holesAre(read("c5;"), 0, 5, 0, 0);
        holesAre(read("c4;e011;e011;e231;"), 2, 2, 1, 0);
        for (int[] a : new int[][] {{-1, 0}, {3, 0}, {0, 1}, {0, 4}, {1, -1}, {HIGH, 0}, {2, LOW}}) {
            due("holes " + a[0] + " " + a[1], () -> torus.holes(a[0], a[1]), BAD);
        }
    }

    static void twist() {
        ChainParts x = read("c1;e001;e001;e001;f1aabb;f2aaaa;f3bBcc;f1aA;");
        due("one", () -> x.twist(1, 1), 2);
        due("one, all", () -> x.twist(1, 0), 2);
        due("one, no more", () -> x.twist(1, 2), NONE);
        due("two, 1", () -> x.twist(3, 1), 2);
        due("two, 2", () -> x.twist(3, 2), 4);
        due("two, all", () -> x.twist(3, 0), 8);
        due("three, 2", () -> x.twist(7, 2), 2);
        due("three, 3", () -> x.twist(7, 3), 4);
        due("three, all", () -> x.twist(15, 0), 16);
        due("three of four", () -> x.twist(15, 4), NONE);
        due("many", () -> x.twist(15, HIGH), NONE);
        due("sealed", () -> x.twist(8, 1), NONE);
        due("sealed, all", () -> x.twist(8, 0), 1);
        due("none", () -> x.twist(0, 1), NONE);
        due("none, all", () -> x.twist(0, 0), 1);
        for (int[] a : new int[][] {{16, 0}, {-1, 0}, {1, -1}, {LOW, 0}, {HIGH, 0}, {1, LOW}}) {
            due("twist " + a[0] + " " + a[1], () -> x.twist(a[0], a[1]), BAD);
        }
        ChainParts y = read("c1;e001;e001;f1aab;f1abb;");
        due("twisted by 3 together", () -> y.twist(3, 2), 3);
        due("not alone", () -> y.twist(2, 0), 1);
        due("no face", () -> read("c1;").twist(1, 0), BAD);
        due("none of none", () -> read("c1;").twist(0, 0), 1);
    }

    static void chainNumbers() {
        ChainParts x = read(TRIANGLE);
        x.put(1, 2, -4);
        due("put", () -> x.chain(1, 2), -4);
        due("first", () -> x.chain(0, 2), 0);
        for (int[] a : new int[][] {{-1, 0}, {3, 0}, {0, 4}, {0, -1}, {HIGH, HIGH}, {0, LOW}}) {
            due("chain " + a[0] + " " + a[1], () -> x.chain(a[0], a[1]), BAD);
        }
    }

    static void ends() {
        ChainParts x = read(TRIANGLE);
        chain(x, 0, 3, -2, 1, 9);
        due("point 0", () -> x.ends(0, 0), -2);
        due("point 1", () -> x.ends(0, 1), 5);
        due("point 2", () -> x.ends(0, 2), -3);
        due("another", () -> x.ends(2, 2), 0);
        for (int[] a : new int[][] {{-1, 0}, {3, 0}, {0, 3}, {0, -1}, {LOW, 0}, {0, HIGH}}) {
            due("ends " + a[0] + " " + a[1], () -> x.ends(a[0], a[1]), BAD);
        }
    }

    static void wholeIs(ChainParts x, int chain, int cycle, int bounds, int order) {
        due("a cycle", () -> x.whole(chain, 0), cycle);
        due("bounds", () -> x.whole(chain, 1), bounds);
        due("order", () -> x.whole(chain, 2), order);
    }

    static void whole() {
        ChainParts x = read("c2;e001;e002;e013;f1aabb;f2aaaa;");
        wholeIs(x, 0, 1, 1, 1);
        chain(x, 0, 2, 2, 0);
        wholeIs(x, 0, 1, 1, 1);
        chain(x, 0, 1, 1, 0);
        wholeIs(x, 0, 1, 0, 2);
        chain(x, 0, 1, 0, 0);
        wholeIs(x, 0, 1, 0, 4);
        chain(x, 0, 3, 1, 0);
        wholeIs(x, 0, 1, 0, 2);
        chain(x, 0, 0, 0, 1);
        wholeIs(x, 0, 0, 0, NONE);
        ChainParts y = read("c1;e001;e001;e001;f1aaaa;f1bbb;f1aA;");
        chain(y, 1, 1, 1, 0);
        wholeIs(y, 1, 1, 0, 12);
        chain(y, 1, 1, 1, 1);
        wholeIs(y, 1, 1, 0, NONE);
        chain(y, 1, 8, -9, 0);
        wholeIs(y, 1, 1, 1, 1);
        ChainParts z = read("c1;e001;");
        wholeIs(z, 0, 1, 1, 1);
        z.put(0, 0, 1);
        wholeIs(z, 0, 1, 0, NONE);
        wholeIs(read("c3;"), 2, 1, 1, 1);
        for (int[] a : new int[][] {{-1, 0}, {3, 0}, {0, 3}, {0, -1}, {HIGH, 0}, {0, LOW}}) {
            due("whole " + a[0] + " " + a[1], () -> z.whole(a[0], a[1]), BAD);
        }
    }

    static void partIs(ChainParts x, int chain, int part, int edge, long above, long below) {
        due("part " + part + " at " + edge + ", above", () -> x.part(chain, part, edge, 0), above);
        due("part " + part + " at " + edge + ", below", () -> x.part(chain, part, edge, 1), below);
    }

    static void part() {
        ChainParts x = read("c3;e011;e122;e203;e003;f2abc;");
        chain(x, 0, 1, 0, 0, 5);
        partIs(x, 0, 0, 0, 6, 11);
        partIs(x, 0, 0, 2, 6, 11);
        partIs(x, 0, 0, 3, 0, 1);
        partIs(x, 0, 1, 0, 5, 11);
        partIs(x, 0, 1, 1, -6, 11);
        partIs(x, 0, 1, 2, -6, 11);
        partIs(x, 0, 2, 0, 0, 1);
        partIs(x, 0, 2, 3, 5, 1);
        x.drop(2, 0);
        partIs(x, 0, 0, 0, 0, 1);
        partIs(x, 0, 2, 0, 6, 11);
        partIs(x, 0, 1, 0, 5, 11);
        ChainParts y = read("c1;e001;e002;e003;f1ab;f1ba;f1aabb;f3cC;");
        chain(y, 2, 1, 0, 9);
        partIs(y, 2, 0, 0, 2, 3);
        partIs(y, 2, 0, 1, 2, 3);
        partIs(y, 2, 2, 0, 1, 3);
        partIs(y, 2, 2, 1, -2, 3);
        partIs(y, 2, 2, 2, 9, 1);
        partIs(y, 2, 1, 0, 0, 1);
        partIs(y, 0, 2, 0, 0, 1);
        for (int[] a : new int[][] {{-1, 0, 0, 0}, {3, 0, 0, 0}, {0, -1, 0, 0}, {0, 3, 0, 0}, {0, 0, 3, 0}, {0, 0, -1, 0},
            {0, 0, 0, 2}, {0, 0, 0, -1}, {HIGH, 0, 0, 0}, {0, LOW, 0, 0}, {0, 0, HIGH, 0}, {0, 0, 0, LOW}}) {
            due("part " + a[0] + " " + a[1] + " " + a[2] + " " + a[3], () -> y.part(a[0], a[1], a[2], a[3]), BAD);
        }
    }

    static void lengthIs(ChainParts x, int chain, int part, long above, long below) {
        due("length " + part + ", above", () -> x.length(chain, part, 0), above);
        due("length " + part + ", below", () -> x.length(chain, part, 1), below);
    }

    static void length() {
        ChainParts x = read("c3;e011;e122;e203;e003;f2abc;");
        chain(x, 0, 1, 0, 0, 5);
        lengthIs(x, 0, 0, 6, 11);
        lengthIs(x, 0, 1, 5, 11);
        lengthIs(x, 0, 2, 25, 3);
        lengthIs(x, 0, 3, 28, 3);
        lengthIs(x, 1, 3, 0, 1);
        lengthIs(x, 1, 2, 0, 1);
        for (int[] a : new int[][] {{-1, 0, 0}, {3, 0, 0}, {0, -1, 0}, {0, 4, 0}, {0, 0, 2}, {0, 0, -1}, {HIGH, 0, 0},
            {0, LOW, 0}, {0, 0, HIGH}}) {
            due("length " + a[0] + " " + a[1] + " " + a[2], () -> x.length(a[0], a[1], a[2]), BAD);
        }
        ChainParts y = read("c1;");
        lengthIs(y, 0, 0, 0, 1);
        lengthIs(y, 0, 3, 0, 1);
    }

    static void share() {
        ChainParts x = read("c3;e011;e122;e203;e003;f2abc;");
        due("a chain of 0", () -> x.share(0, 0), STATE);
        due("BAD ahead of that", () -> x.share(0, 3), BAD);
        chain(x, 0, 1, 0, 0, 5);
        due("6/11 by 28/3", () -> x.share(0, 0), (int) ((float) 9L / (float) 154L * 1000f));
        due("5/11 by 28/3", () -> x.share(0, 1), (int) ((float) 15L / (float) 308L * 1000f));
        due("25/3 by 28/3", () -> x.share(0, 2), 892);
        chain(x, 1, 0, 0, 0, 5);
        due("all", () -> x.share(1, 2), 1000);
        due("none", () -> x.share(1, 0), 0);
        for (int[] a : new int[][] {{-1, 0}, {3, 0}, {0, -1}, {0, 3}, {HIGH, 0}, {0, LOW}}) {
            due("share " + a[0] + " " + a[1], () -> x.share(a[0], a[1]), BAD);
        }
    }

    static void trees() {
        ChainParts x = read("c3;e012;e123;e203;e001;e011;");
        due("how many", () -> x.trees(1, 0), 5);
        due("counted", () -> x.trees(1, 1), 2 * 3 + 2 * 3 + 3 * 3 + 1 * 3 + 1 * 3);
        due("of no face", () -> x.trees(2, 0), 1);
        due("of no face, counted", () -> x.trees(2, 1), 1);
        ChainParts y = read("c1;e001;e001;f1aa;f2bbb;f3aabb;f1aA;");
        due("loops", () -> y.trees(1, 0), 1);
        due("loops, counted", () -> y.trees(1, 1), 1);
        due("of faces", () -> y.trees(2, 0), 3);
        due("twisted by 6, 4, 6", () -> y.trees(2, 1), 1 * 2 * 36 + 1 * 3 * 16 + 2 * 3 * 36);
        ChainParts z = read("c4;e012;e233;");
        due("apart", () -> z.trees(1, 0), 1);
        due("apart, counted", () -> z.trees(1, 1), 6);
        due("points", () -> read("c4;").trees(1, 1), 1);
        for (int[] a : new int[][] {{0, 0}, {3, 0}, {1, 2}, {1, -1}, {LOW, 0}, {2, HIGH}}) {
            due("trees " + a[0] + " " + a[1], () -> z.trees(a[0], a[1]), BAD);
        }
    }

    static void minors() {
        ChainParts x = read("c3;e012;e123;e203;e001;e011;f1aE;f2abc;");
        due("each tree with each point", () -> x.minors(0), 3 * x.trees(1, 1));
        due("each tree with each point, no weights", () -> x.minors(1), 3 * x.trees(1, 0));
        due("of faces", () -> x.minors(2), 2 * (2 * 3 - 1 * 1));
        ChainParts y = read("c1;e001;f3aaa;");
        due("of loops", () -> y.minors(0), 1);
        due("of loops", () -> y.minors(1), 1);
        due("a face", () -> y.minors(2), 27);
        ChainParts z = read("c2;");
        for (int which = 0; which < 3; which++) {
            int w = which;
            due("none", () -> z.minors(w), 1);
        }
        due("minors -1", () -> z.minors(-1), BAD);
        due("minors 3", () -> z.minors(3), BAD);
        due("minors low", () -> z.minors(LOW), BAD);
    }

    static void image() {
        ChainParts x = new ChainParts();
        due("none yet", () -> x.image(0), STATE);
        due("BAD ahead of STATE", () -> x.image(2), BAD);
        feed(x, TRIANGLE);
        x.complex();
        x.put(0, 0, 3);
        due("kept", () -> x.image(1), 1);
        due("acts stay", () -> x.count(3), 1);
        due("the other is none", () -> x.restore(0), STATE);
        due("bad", () -> x.image(-1), BAD);
        due("bad", () -> x.image(HIGH), BAD);
        due("bad", () -> x.image(LOW), BAD);
        x.put(0, 0, 4);
        due("kept anew", () -> x.image(1), 1);
        x.put(0, 0, 5);
        x.restore(1);
        due("the later one", () -> x.chain(0, 0), 4);
    }

    static void restore() {
        ChainParts x = read(TRIANGLE);
        chain(x, 2, 1, 2, 3, 4);
        x.image(0);
        feed(x, "c1;e001;");
        x.complex();
        x.put(0, 0, 9);
        x.image(1);
        feed(x, "ab");
        due("back", () -> x.restore(0), 1);
        due("faces", () -> x.count(2), 2);
        due("edges", () -> x.count(1), 4);
        due("chains", () -> x.chain(2, 3), 4);
        due("chains", () -> x.chain(0, 0), 0);
        due("acts", () -> x.count(3), 0);
        due("undo", x::undo, STATE);
        due("the tape stays", () -> x.count(4), 2);
        x.put(2, 0, 9);
        due("the image is none of it", () -> x.restore(0), 1);
        due("chains", () -> x.chain(2, 0), 1);
        due("the other", () -> x.restore(1), 1);
        due("edges", () -> x.count(1), 1);
        due("bad", () -> x.restore(2), BAD);
        due("bad", () -> x.restore(-1), BAD);
        due("bad", () -> x.restore(LOW), BAD);
    }

    static void count() {
        ChainParts x = read(TRIANGLE);
        feed(x, "abc");
        x.put(0, 0, 0);
        int[] want = {3, 4, 2, 1, 3};
        for (int what = 0; what < 5; what++) {
            int w = what;
            due("count " + w, () -> x.count(w), want[w]);
        }
        due("count -1", () -> x.count(-1), BAD);
        due("count 5", () -> x.count(5), BAD);
        due("count high", () -> x.count(HIGH), BAD);
        due("count low", () -> x.count(LOW), BAD);
    }
}
