import java.math.BigInteger;
import java.util.ArrayDeque;
import java.util.ArrayList;
import java.util.Arrays;
import java.util.Deque;
import java.util.List;
import java.util.Random;

/**
 * Long runs of calls, drawn by a fixed seed, on the class and on a second program that reaches the
 * same answers in other ways (fractions of any size, Gram and Schmidt, the normal form of Smith,
 * the one of Hermite, the characteristic polynomial).
 * Arguments: how many runs (400), the first seed (1).
 */
public final class RandomRunsTest {
    static final long NONE = -1000000, BAD = -1000001, STATE = -1000002, FULL = -1000003;
    static final int[] EDGY = {Integer.MIN_VALUE, Integer.MAX_VALUE, -1, 0, 1, 2, 3, 4, 5, 6, 7, 8, 9, 10, 11, 12, 13,
        14, -9, -10, 15, 16, 31, 32, 64, 90, 255, 256, 999999, 1000000, -1000000};
    static int wrong = 0;
    static long calls = 0;

    public static void main(String[] args) {
        int runs = args.length > 0 ? Integer.parseInt(args[0]) : 400;
        long first = args.length > 1 ? Long.parseLong(args[1]) : 1;
        for (int run = 0; run < runs && wrong < 20; run++) {
            new Run(first + run).go();
        }
        System.out.println(runs + " runs, " + calls + " calls, " + wrong + " wrong");
        if (wrong != 0) {
            System.exit(1);
        }
    }

    // ---- one run

    static final class Run {
        final Random random;
        final long seed;
        final ChainParts x = new ChainParts();
        final Oracle o = new Oracle();
        final List<String> told = new ArrayList<>();
        int left = 512;

        Run(long seed) {
            this.seed = seed;
            this.random = new Random(seed);
        }

        int below(int n) {
            return random.nextInt(n);
        }

        boolean check(String call, long got, long want) {
            calls++;
            left--;
            told.add(call + " = " + got);
            if (got != want) {
                wrong++;
                System.out.println("seed " + seed + ": " + call + " answered " + got + ", the other program " + want
                    + "\n   " + o.s.text());
                return false;
            }
            return true;
        }

        void go() {
            int last = wrong;
            if (below(4) == 0) {
                for (int i = 0; i < 20 && wrong == last; i++) {
                    anyCall();
                }
            }
            while (left > 0 && wrong == last) {
                int what = below(100);
                if (what < 2 || o.s.points == 0 && what < 60) {
                    complex();
                } else if (what < 5) {
                    sew();
                } else if (what < 7) {
                    brokenTape();
                } else if (what < 9) {
                    partsAgree();
                } else {
                    anyCall();
                }
            }
        }

        void feed(String text) {
            for (int i = 0; i < text.length() && left > 0; i++) {
                int c = text.charAt(i);
                check("feed(" + c + ")", x.feed(c), o.feed(c));
            }
        }

        void read() {
            if (left > 1) {
                check("complex()", x.complex(), o.complex());
                check("fault()", x.fault(), o.lastFault);
            }
        }

        void complex() {
            if (o.tape.length() > 0 && below(8) > 0) {
                read();
            }
            feed(randomText());
            read();
            for (int chain = 0; chain < 3 && left > 0; chain++) {
                if (below(3) > 0) {
                    int d = 1 + below(999999);
                    check("drawn(" + chain + "," + d + ")", x.drawn(chain, d), o.drawn(chain, d));
                }
            }
        }

        String randomText() {
            State s = new State();
            s.points = 1 + below(below(3) == 0 ? 5 : 3);
            int edges = below(3) == 0 ? below(7) : 3 + below(4);
            for (int i = 0; i < edges; i++) {
                s.edges.add(new int[] {below(s.points), below(s.points), 1 + below(3)});
            }
            int faces = below(5);
            for (int i = 0; i < faces; i++) {
                String word = randomWord(s);
                if (word != null) {
                    s.faces.add(new Face(1 + below(3), word));
                }
            }
            return s.text();
        }

        String randomWord(State s) {
            for (int tries = 0; tries < 60 && !s.edges.isEmpty(); tries++) {
                int size = 1 + below(4);
                StringBuilder b = new StringBuilder();
                int e = below(s.edges.size());
                for (int k = 0; k < size; k++) {
                    if (below(3) > 0) {
                        e = below(s.edges.size());
                    }
                    b.append((char) ((below(2) == 0 ? 'a' : 'A') + e));
                }
                if (s.isWord(b.toString())) {
                    return b.toString();
                }
            }
            return null;
        }

        void sew() {
            String word = o.s.points == 0 ? "a" : randomWord(o.s);
            feed(word == null ? "aA" : word);
            if (left > 0) {
                int w = 1 + below(3);
                check("face(" + w + ")", x.face(w), o.face(w));
            }
        }

        void brokenTape() {
            if (o.tape.length() > 0) {
                read();
            }
            StringBuilder b = new StringBuilder(randomText());
            String signs = "cef;,0123456789abcdefzABCDEFZ \u00ff";
            int changes = 1 + below(2);
            for (int i = 0; i < changes; i++) {
                int at = below(b.length() + 1);
                int how = below(4);
                if (how == 0) {
                    b.setLength(at);
                } else if (how == 1 && at < b.length()) {
                    b.setCharAt(at, signs.charAt(below(signs.length())));
                } else if (how == 2 && at < b.length()) {
                    b.deleteCharAt(at);
                } else {
                    b.insert(at, signs.charAt(below(signs.length())));
                }
            }
            feed(b.toString());
            read();
        }

        /** The PARTS by what the document says they are, not by how they are found. */
        void partsAgree() {
            int n = o.s.edges.size();
            if (o.s.points == 0 || n == 0) {
                return;
            }
            int chain = below(3);
            Q[][] parts = new Q[3][n];
            for (int p = 0; p < 3; p++) {
                for (int e = 0; e < n; e++) {
                    parts[p][e] = new Q(BigInteger.valueOf(x.part(chain, p, e, 0)),
                        BigInteger.valueOf(x.part(chain, p, e, 1)));
                }
            }
            left -= 6 * n;
            State s = o.s;
            boolean good = true;
            for (int e = 0; e < n; e++) {
                good &= parts[0][e].add(parts[1][e]).add(parts[2][e]).sub(Q.of(s.numbers[chain].get(e))).isZero();
            }
            Q[][] faces = Oracle.rays(s, 0), points = Oracle.rays(s, 1);
            good &= Oracle.rank(faces) == Oracle.rank(Oracle.with(faces, parts[0]));
            good &= Oracle.rank(points) == Oracle.rank(Oracle.with(points, parts[1]));
            for (Q[] f : faces) {
                good &= Oracle.product(s, f, parts[1]).isZero() && Oracle.product(s, f, parts[2]).isZero();
            }
            for (Q[] p : points) {
                good &= Oracle.product(s, p, parts[0]).isZero() && Oracle.product(s, p, parts[2]).isZero();
            }
            check("the parts of chain " + chain, good ? 1 : 0, 1);
        }

        int arg(int n) {
            int how = below(20);
            if (how == 0) {
                return EDGY[below(EDGY.length)];
            }
            return how < 18 && n > 0 ? below(n) : below(n + 3) - 1;
        }

        int edgeArg() {
            return arg(o.s.edges.size());
        }

        int faceArg() {
            return arg(o.s.faces.size());
        }

        int cellArg(int dim) {
            return arg(dim == 0 ? o.s.points : dim == 1 ? o.s.edges.size() : o.s.faces.size());
        }

        int prime() {
            int[] primes = {0, 2, 3, 5, 7};
            return below(8) == 0 ? arg(12) : primes[below(5)];
        }

        void anyCall() {
            int a, b, c, d;
            switch (below(34)) {
                case 0:
                    a = below(3) == 0 ? arg(256) : "abcdefABCDEF;".charAt(below(13));
                    check("feed(" + a + ")", x.feed(a), o.feed(a));
                    break;
                case 1:
                    check("fault()", x.fault(), o.lastFault);
                    break;
                case 2: case 3:
                    check("undo()", x.undo(), o.undo());
                    break;
                case 4: case 5:
                    a = 1 + arg(2); b = cellArg(a); c = 1 + arg(3);
                    check("weigh(" + a + "," + b + "," + c + ")", x.weigh(a, b, c), o.weigh(a, b, c));
                    break;
                case 6:
                    a = arg(o.s.points); b = arg(o.s.points); c = 1 + arg(3);
                    check("edge(" + a + "," + b + "," + c + ")", x.edge(a, b, c), o.edge(a, b, c));
                    break;
                case 7:
                    a = 1 + arg(3);
                    check("face(" + a + ")", x.face(a), o.face(a));
                    break;
                case 8:
                    a = 1 + arg(2); b = cellArg(a);
                    check("drop(" + a + "," + b + ")", x.drop(a, b), o.drop(a, b));
                    break;
                case 9: case 10: case 11:
                    a = arg(3); b = edgeArg(); c = arg(19) - 9;
                    check("put(" + a + "," + b + "," + c + ")", x.put(a, b, c), o.put(a, b, c));
                    break;
                case 12: case 13:
                    a = arg(3); b = faceArg(); c = below(2) == 0 ? arg(5) - 2 : arg(19) - 9;
                    check("bound(" + a + "," + b + "," + c + ")", x.bound(a, b, c), o.bound(a, b, c));
                    break;
                case 14:
                    a = arg(3); b = below(5) == 0 ? arg(3) : 1 + below(999999);
                    check("drawn(" + a + "," + b + ")", x.drawn(a, b), o.drawn(a, b));
                    break;
                case 15: case 16:
                    a = 1 + arg(2); b = cellArg(a); c = below(2) == 0 ? arg(3) : 10 + arg(4);
                    check("cell(" + a + "," + b + "," + c + ")", x.cell(a, b, c), o.cell(a, b, c));
                    break;
                case 17:
                    a = arg(3); b = cellArg(a); c = arg(6);
                    check("as(" + a + "," + b + "," + c + ")", x.as(a, b, c), o.as(a, b, c));
                    break;
                case 18:
                    a = 1 + arg(2); b = cellArg(a - 1); c = cellArg(a);
                    check("table(" + a + "," + b + "," + c + ")", x.table(a, b, c), o.table(a, b, c));
                    break;
                case 19:
                    a = arg(3); b = cellArg(a == 0 ? 0 : 1); c = cellArg(a == 0 ? 0 : 1);
                    check("near(" + a + "," + b + "," + c + ")", x.near(a, b, c), o.near(a, b, c));
                    break;
                case 20:
                    a = 1 + arg(2); b = prime();
                    check("rank(" + a + "," + b + ")", x.rank(a, b), o.rankOf(a, b));
                    break;
                case 21:
                    a = arg(3); b = prime();
                    check("holes(" + a + "," + b + ")", x.holes(a, b), o.holes(a, b));
                    break;
                case 22: case 23:
                    a = arg(1 << o.s.faces.size()); b = arg(4);
                    check("twist(" + a + "," + b + ")", x.twist(a, b), o.twist(a, b));
                    break;
                case 24:
                    a = arg(3); b = edgeArg();
                    check("chain(" + a + "," + b + ")", x.chain(a, b), o.chain(a, b));
                    break;
                case 25:
                    a = arg(3); b = arg(o.s.points);
                    check("ends(" + a + "," + b + ")", x.ends(a, b), o.ends(a, b));
                    break;
                case 26: case 27:
                    a = arg(3); b = arg(3);
                    check("whole(" + a + "," + b + ")", x.whole(a, b), o.whole(a, b));
                    break;
                case 28:
                    a = arg(3); b = arg(3); c = edgeArg(); d = arg(2);
                    check("part(" + a + "," + b + "," + c + "," + d + ")", x.part(a, b, c, d), o.part(a, b, c, d));
                    break;
                case 29:
                    a = arg(3); b = arg(4); c = arg(2);
                    check("length(" + a + "," + b + "," + c + ")", x.length(a, b, c), o.length(a, b, c));
                    break;
                case 30:
                    a = arg(3); b = arg(3);
                    check("share(" + a + "," + b + ")", x.share(a, b), o.share(a, b));
                    break;
                case 31:
                    a = 1 + arg(2); b = arg(2);
                    check("trees(" + a + "," + b + ")", x.trees(a, b), o.trees(a, b));
                    break;
                case 32:
                    a = arg(3);
                    check("minors(" + a + ")", x.minors(a), o.minors(a));
                    break;
                default:
                    a = arg(5);
                    if (below(3) == 0) {
                        b = arg(2);
                        if (below(2) == 0) {
                            check("image(" + b + ")", x.image(b), o.image(b));
                        } else {
                            check("restore(" + b + ")", x.restore(b), o.restore(b));
                        }
                    } else {
                        check("count(" + a + ")", x.count(a), o.count(a));
                    }
            }
        }
    }

    // ---- the second program

    static final class Face {
        final int w;
        final String word;

        Face(int w, String word) {
            this.w = w;
            this.word = word;
        }
    }

    static final class State {
        int points = 0;
        List<int[]> edges = new ArrayList<>();
        List<Face> faces = new ArrayList<>();
        @SuppressWarnings("unchecked")
        List<Integer>[] numbers = new List[] {new ArrayList<Integer>(), new ArrayList<Integer>(), new ArrayList<Integer>()};

        State copy() {
            State s = new State();
            s.points = points;
            for (int[] e : edges) {
                s.edges.add(e.clone());
            }
            s.faces.addAll(faces);
            for (int c = 0; c < 3; c++) {
                s.numbers[c].addAll(numbers[c]);
            }
            return s;
        }

        String text() {
            StringBuilder b = new StringBuilder("c" + points + ";");
            for (int[] e : edges) {
                b.append("e" + e[0] + e[1] + e[2] + ";");
            }
            for (Face f : faces) {
                b.append("f" + f.w + f.word + ";");
            }
            return b.toString();
        }

        boolean isWord(String word) {
            if (word.length() < 1 || word.length() > 4) {
                return false;
            }
            for (int k = 0; k < word.length(); k++) {
                if ("abcdefABCDEF".indexOf(word.charAt(k)) < 0 || "abcdef".indexOf(Character.toLowerCase(word.charAt(k))) >= edges.size()) {
                    return false;
                }
            }
            for (int k = 0; k < word.length(); k++) {
                char ahead = word.charAt((k + word.length() - 1) % word.length());
                if (begin(word.charAt(k)) != begin(turned(ahead))) {
                    return false;
                }
            }
            return true;
        }

        static char turned(char c) {
            return Character.isLowerCase(c) ? Character.toUpperCase(c) : Character.toLowerCase(c);
        }

        int begin(char c) {
            int[] e = edges.get("abcdef".indexOf(Character.toLowerCase(c)));
            return Character.isLowerCase(c) ? e[0] : e[1];
        }

        int size(int dim) {
            return dim == 0 ? points : dim == 1 ? edges.size() : dim == 2 ? faces.size() : 0;
        }

        boolean has(int dim, int cell) {
            return cell >= 0 && cell < size(dim);
        }

        int[][] table(int dim) {
            int[][] t = new int[size(dim - 1)][size(dim)];
            for (int j = 0; j < size(dim); j++) {
                if (dim == 1) {
                    t[edges.get(j)[1]][j]++;
                    t[edges.get(j)[0]][j]--;
                } else {
                    for (char c : faces.get(j).word.toCharArray()) {
                        t["abcdef".indexOf(Character.toLowerCase(c))][j] += Character.isLowerCase(c) ? 1 : -1;
                    }
                }
            }
            return t;
        }
    }

    static final class Q {
        static final Q ZERO = of(0), ONE = of(1);
        final BigInteger a, b;

        Q(BigInteger a, BigInteger b) {
            BigInteger g = a.gcd(b);
            if (b.signum() < 0) {
                g = g.negate();
            }
            this.a = a.divide(g);
            this.b = b.divide(g);
        }

        static Q of(long v) {
            return new Q(BigInteger.valueOf(v), BigInteger.ONE);
        }

        Q add(Q q) {
            return new Q(a.multiply(q.b).add(q.a.multiply(b)), b.multiply(q.b));
        }

        Q sub(Q q) {
            return add(new Q(q.a.negate(), q.b));
        }

        Q mul(Q q) {
            return new Q(a.multiply(q.a), b.multiply(q.b));
        }

        Q div(Q q) {
            return new Q(a.multiply(q.b), b.multiply(q.a));
        }

        boolean isZero() {
            return a.signum() == 0;
        }
    }

    static final class Oracle {
        State s = new State();
        final StringBuilder tape = new StringBuilder();
        final Deque<State> acts = new ArrayDeque<>();
        final State[] images = new State[2];
        int lastFault = 0;

        void act() {
            acts.addLast(s.copy());
            if (acts.size() > 8) {
                acts.removeFirst();
            }
        }

        long feed(int letter) {
            if (letter < 0 || letter > 255) {
                return BAD;
            }
            if (tape.length() == 90) {
                return FULL;
            }
            tape.append((char) letter);
            return tape.length();
        }

        /** One state for each place in the text, by which the TOKEN that comes is judged. */
        long complex() {
            String t = tape.toString();
            tape.setLength(0);
            State n = new State();
            String state = "c";
            int from = 0, to = 0, w = 0;
            String word = "";
            for (int i = 0; i <= t.length(); i++) {
                int c = i < t.length() ? t.charAt(i) : -1;
                int digit = c >= '0' && c <= '9' ? c - '0' : -1;
                boolean letter = c >= 'a' && c <= 'z' || c >= 'A' && c <= 'Z';
                int fault = 0;
                if (state.equals("c")) {
                    fault = c == 'c' ? 0 : 1;
                    state = "points";
                } else if (state.equals("points")) {
                    fault = digit < 0 ? 1 : digit < 1 || digit > 5 ? 2 : 0;
                    n.points = digit;
                    state = "c;";
                } else if (state.equals("c;")) {
                    fault = c == ';' ? 0 : 1;
                    state = "top";
                } else if (state.equals("top")) {
                    if (c == -1) {
                        break;
                    }
                    if (c == 'e' && n.faces.isEmpty()) {
                        fault = n.edges.size() == 6 ? 3 : 0;
                        state = "from";
                    } else if (c == 'f') {
                        fault = n.faces.size() == 4 ? 3 : 0;
                        state = "fw";
                        word = "";
                    } else {
                        fault = 1;
                    }
                } else if (state.equals("from")) {
                    fault = digit < 0 ? 1 : digit >= n.points ? 2 : 0;
                    from = digit;
                    state = "to";
                } else if (state.equals("to")) {
                    fault = digit < 0 ? 1 : digit >= n.points ? 2 : 0;
                    to = digit;
                    state = "ew";
                } else if (state.equals("ew")) {
                    fault = digit < 0 ? 1 : digit < 1 || digit > 3 ? 2 : 0;
                    w = digit;
                    state = "e;";
                } else if (state.equals("e;")) {
                    fault = c == ';' ? 0 : 1;
                    n.edges.add(new int[] {from, to, w});
                    state = "top";
                } else if (state.equals("fw")) {
                    fault = digit < 0 ? 1 : digit < 1 || digit > 3 ? 2 : 0;
                    w = digit;
                    state = "word";
                } else if (letter) {
                    int e = "abcdef".indexOf(Character.toLowerCase(c));
                    if (e < 0 || e >= n.edges.size() || word.length() == 4) {
                        fault = 2;
                    } else if (!word.isEmpty() && n.begin((char) c) != n.begin(State.turned(word.charAt(word.length() - 1)))) {
                        fault = 2;
                    }
                    word += (char) c;
                } else if (c == ';' && !word.isEmpty()) {
                    fault = n.isWord(word) ? 0 : 2;
                    n.faces.add(new Face(w, word));
                    state = "top";
                } else {
                    fault = 1;
                }
                if (fault != 0) {
                    lastFault = fault;
                    return -1000100 - i;
                }
            }
            for (int c = 0; c < 3; c++) {
                for (int e = 0; e < n.edges.size(); e++) {
                    n.numbers[c].add(0);
                }
            }
            s = n;
            acts.clear();
            return s.points + s.edges.size() + s.faces.size();
        }

        long undo() {
            if (acts.isEmpty()) {
                return STATE;
            }
            s = acts.removeLast();
            return acts.size();
        }

        long weigh(int dim, int cell, int w) {
            if (dim != 1 && dim != 2 || !s.has(dim, cell) || w < 1 || w > 3) {
                return BAD;
            }
            act();
            if (dim == 1) {
                int old = s.edges.get(cell)[2];
                s.edges.get(cell)[2] = w;
                return old;
            }
            Face old = s.faces.get(cell);
            s.faces.set(cell, new Face(w, old.word));
            return old.w;
        }

        long edge(int from, int to, int w) {
            if (s.points == 0) {
                return STATE;
            }
            if (!s.has(0, from) || !s.has(0, to) || w < 1 || w > 3) {
                return BAD;
            }
            if (s.edges.size() == 6) {
                return FULL;
            }
            act();
            s.edges.add(new int[] {from, to, w});
            for (int c = 0; c < 3; c++) {
                s.numbers[c].add(0);
            }
            return s.edges.size() - 1;
        }

        long face(int w) {
            String word = tape.toString();
            tape.setLength(0);
            if (s.points == 0) {
                return STATE;
            }
            if (w < 1 || w > 3 || !s.isWord(word)) {
                return BAD;
            }
            if (s.faces.size() == 4) {
                return FULL;
            }
            act();
            s.faces.add(new Face(w, word));
            return s.faces.size() - 1;
        }

        long drop(int dim, int cell) {
            if (dim != 1 && dim != 2 || !s.has(dim, cell)) {
                return BAD;
            }
            if (dim == 2) {
                act();
                s.faces.remove(cell);
                return s.faces.size();
            }
            for (Face f : s.faces) {
                if (f.word.toLowerCase().indexOf('a' + cell) >= 0) {
                    return STATE;
                }
            }
            act();
            s.edges.remove(cell);
            for (int c = 0; c < 3; c++) {
                s.numbers[c].remove(cell);
            }
            List<Face> faces = new ArrayList<>();
            for (Face f : s.faces) {
                StringBuilder b = new StringBuilder();
                for (char c : f.word.toCharArray()) {
                    b.append(Character.toLowerCase(c) > 'a' + cell ? (char) (c - 1) : c);
                }
                faces.add(new Face(f.w, b.toString()));
            }
            s.faces = faces;
            return s.edges.size();
        }

        static boolean isChain(int chain) {
            return chain >= 0 && chain < 3;
        }

        long put(int chain, int edge, int v) {
            if (!isChain(chain) || !s.has(1, edge) || v < -9 || v > 9) {
                return BAD;
            }
            act();
            return s.numbers[chain].set(edge, v);
        }

        long notZero(int chain) {
            return s.numbers[chain].stream().filter(v -> v != 0).count();
        }

        long bound(int chain, int face, int t) {
            if (!isChain(chain) || !s.has(2, face) || t < -9 || t > 9) {
                return BAD;
            }
            int[][] table = s.table(2);
            List<Integer> sum = new ArrayList<>();
            for (int e = 0; e < s.edges.size(); e++) {
                int v = s.numbers[chain].get(e) + t * table[e][face];
                if (v < -9 || v > 9) {
                    return FULL;
                }
                sum.add(v);
            }
            act();
            s.numbers[chain] = sum;
            return notZero(chain);
        }

        long drawn(int chain, int seed) {
            if (s.points == 0) {
                return STATE;
            }
            if (!isChain(chain) || seed < 1 || seed > 999999) {
                return BAD;
            }
            act();
            BigInteger x = BigInteger.valueOf(seed);
            for (int e = 0; e < s.edges.size(); e++) {
                x = x.multiply(BigInteger.valueOf(16807)).mod(BigInteger.valueOf(2147483647));
                s.numbers[chain].set(e, x.mod(BigInteger.valueOf(19)).intValue() - 9);
            }
            return notZero(chain);
        }

        long cell(int dim, int cell, int what) {
            if (dim != 1 && dim != 2 || !s.has(dim, cell)) {
                return BAD;
            }
            if (dim == 1) {
                return what == 0 ? s.edges.get(cell)[2] : what == 1 ? s.edges.get(cell)[0]
                    : what == 2 ? s.edges.get(cell)[1] : BAD;
            }
            Face f = s.faces.get(cell);
            switch (what) {
                case 0:
                    return f.w;
                case 1:
                    return f.word.length();
                case 2:
                    return s.begin(f.word.charAt(0));
                case 10: case 11: case 12: case 13:
                    return what - 10 < f.word.length() ? f.word.charAt(what - 10) : NONE;
                default:
                    return BAD;
            }
        }

        long as(int dim, int cell, int kind) {
            if (dim < 0 || dim > 2 || !s.has(dim, cell) || kind < 0 || kind > 5) {
                return BAD;
            }
            boolean is = kind == 0 || kind == 1 && dim == 0 || kind == 2 && dim == 1 || kind == 4 && dim == 2;
            if (kind == 3 && dim == 1) {
                is = s.edges.get(cell)[0] == s.edges.get(cell)[1];
            }
            if (kind == 5 && dim == 2) {
                String word = s.faces.get(cell).word;
                is = true;
                for (char c : "abcdef".toCharArray()) {
                    long on = word.chars().filter(l -> l == c).count();
                    long back = word.chars().filter(l -> l == Character.toUpperCase(c)).count();
                    is &= on == back;
                }
            }
            return is ? cell : NONE;
        }

        long table(int dim, int i, int j) {
            if (dim != 1 && dim != 2 || !s.has(dim - 1, i) || !s.has(dim, j)) {
                return BAD;
            }
            return s.table(dim)[i][j];
        }

        int[][] nearTable(int which) {
            int[][] t1 = s.table(1), t2 = s.table(2);
            int n = which == 0 ? s.points : s.edges.size();
            int[][] a = new int[n][n];
            for (int i = 0; i < n; i++) {
                for (int j = 0; j < n; j++) {
                    if (which == 0) {
                        for (int e = 0; e < s.edges.size(); e++) {
                            a[i][j] += t1[i][e] * s.edges.get(e)[2] * t1[j][e];
                        }
                    } else if (which == 1) {
                        for (int p = 0; p < s.points; p++) {
                            a[i][j] += t1[p][i] * t1[p][j];
                        }
                    } else {
                        for (int f = 0; f < s.faces.size(); f++) {
                            a[i][j] += t2[i][f] * s.faces.get(f).w * t2[j][f];
                        }
                    }
                }
            }
            return a;
        }

        long near(int which, int i, int j) {
            if (which < 0 || which > 2 || !s.has(which == 0 ? 0 : 1, i) || !s.has(which == 0 ? 0 : 1, j)) {
                return BAD;
            }
            return nearTable(which)[i][j];
        }

        static Q[][] with(Q[][] rows, Q[] row) {
            Q[][] more = Arrays.copyOf(rows, rows.length + 1);
            more[rows.length] = row;
            return more;
        }

        static int rank(Q[][] rows) {
            Q[][] m = new Q[rows.length][];
            for (int i = 0; i < m.length; i++) {
                m[i] = rows[i].clone();
            }
            int r = 0;
            int n = m.length == 0 ? 0 : m[0].length;
            for (int c = 0; c < n && r < m.length; c++) {
                int p = r;
                while (p < m.length && m[p][c].isZero()) {
                    p++;
                }
                if (p == m.length) {
                    continue;
                }
                Q[] row = m[p];
                m[p] = m[r];
                m[r] = row;
                for (int i = r + 1; i < m.length; i++) {
                    Q f = m[i][c].div(m[r][c]);
                    for (int j = c; j < n; j++) {
                        m[i][j] = m[i][j].sub(f.mul(m[r][j]));
                    }
                }
                r++;
            }
            return r;
        }

        static int rank(int[][] t, int p) {
            if (p == 0) {
                Q[][] m = new Q[t.length][];
                for (int i = 0; i < t.length; i++) {
                    m[i] = new Q[t[i].length];
                    for (int j = 0; j < t[i].length; j++) {
                        m[i][j] = Q.of(t[i][j]);
                    }
                }
                return rank(m);
            }
            int rows = t.length, n = rows == 0 ? 0 : t[0].length, r = 0;
            int[][] m = new int[rows][];
            for (int i = 0; i < rows; i++) {
                m[i] = t[i].clone();
                for (int j = 0; j < n; j++) {
                    m[i][j] = Math.floorMod(m[i][j], p);
                }
            }
            for (int c = 0; c < n && r < rows; c++) {
                int at = r;
                while (at < rows && m[at][c] == 0) {
                    at++;
                }
                if (at == rows) {
                    continue;
                }
                int[] row = m[at];
                m[at] = m[r];
                m[r] = row;
                for (int i = r + 1; i < rows; i++) {
                    int f = m[i][c], g = m[r][c];
                    for (int j = 0; j < n; j++) {
                        m[i][j] = Math.floorMod(m[i][j] * g - m[r][j] * f, p);
                    }
                }
                r++;
            }
            return r;
        }

        static boolean field(int p) {
            return p == 0 || p == 2 || p == 3 || p == 5 || p == 7;
        }

        long rankOf(int dim, int p) {
            if (s.points == 0) {
                return STATE;
            }
            return dim != 1 && dim != 2 || !field(p) ? BAD : rank(s.table(dim), p);
        }

        long holes(int dim, int p) {
            if (s.points == 0) {
                return STATE;
            }
            if (dim < 0 || dim > 2 || !field(p)) {
                return BAD;
            }
            int r1 = rank(s.table(1), p), r2 = rank(s.table(2), p);
            return dim == 0 ? s.points - r1 : dim == 1 ? s.edges.size() - r1 - r2 : s.faces.size() - r2;
        }

        int[][] columns(int[][] t, int set) {
            int[][] c = new int[t.length][Integer.bitCount(set)];
            for (int i = 0; i < t.length; i++) {
                int at = 0;
                for (int j = 0; j < t[i].length; j++) {
                    if ((set >> j & 1) == 1) {
                        c[i][at++] = t[i][j];
                    }
                }
            }
            return c;
        }

        /** The diagonal of the normal form of Smith. */
        static List<BigInteger> smith(int[][] t) {
            int rows = t.length, n = rows == 0 ? 0 : t[0].length;
            BigInteger[][] m = new BigInteger[rows][n];
            for (int i = 0; i < rows; i++) {
                for (int j = 0; j < n; j++) {
                    m[i][j] = BigInteger.valueOf(t[i][j]);
                }
            }
            List<BigInteger> diagonal = new ArrayList<>();
            for (int k = 0; k < rows && k < n; k++) {
                while (true) {
                    int pi = -1, pj = -1;
                    for (int i = k; i < rows; i++) {
                        for (int j = k; j < n; j++) {
                            if (m[i][j].signum() != 0 && (pi < 0 || m[i][j].abs().compareTo(m[pi][pj].abs()) < 0)) {
                                pi = i;
                                pj = j;
                            }
                        }
                    }
                    if (pi < 0) {
                        return diagonal;
                    }
                    BigInteger[] row = m[pi];
                    m[pi] = m[k];
                    m[k] = row;
                    for (BigInteger[] r : m) {
                        BigInteger v = r[pj];
                        r[pj] = r[k];
                        r[k] = v;
                    }
                    for (int i = k + 1; i < rows; i++) {
                        BigInteger q = m[i][k].divide(m[k][k]);
                        for (int j = 0; j < n; j++) {
                            m[i][j] = m[i][j].subtract(q.multiply(m[k][j]));
                        }
                    }
                    for (int j = k + 1; j < n; j++) {
                        BigInteger q = m[k][j].divide(m[k][k]);
                        for (int i = 0; i < rows; i++) {
                            m[i][j] = m[i][j].subtract(q.multiply(m[i][k]));
                        }
                    }
                    boolean clean = true;
                    for (int i = k + 1; i < rows; i++) {
                        clean &= m[i][k].signum() == 0;
                    }
                    for (int j = k + 1; j < n; j++) {
                        clean &= m[k][j].signum() == 0;
                    }
                    if (!clean) {
                        continue;
                    }
                    int odd = -1;
                    for (int i = k + 1; i < rows; i++) {
                        for (int j = k + 1; j < n; j++) {
                            if (m[i][j].mod(m[k][k].abs()).signum() != 0) {
                                odd = i;
                            }
                        }
                    }
                    if (odd < 0) {
                        break;
                    }
                    for (int j = 0; j < n; j++) {
                        m[k][j] = m[k][j].add(m[odd][j]);
                    }
                }
                diagonal.add(m[k][k].abs());
            }
            return diagonal;
        }

        static BigInteger all(List<BigInteger> diagonal) {
            BigInteger product = BigInteger.ONE;
            for (BigInteger d : diagonal) {
                product = product.multiply(d);
            }
            return product;
        }

        long twist(int set, int k) {
            if (s.points == 0) {
                return STATE;
            }
            if (set < 0 || set >= 1 << s.faces.size() || k < 0) {
                return BAD;
            }
            List<BigInteger> d = smith(columns(s.table(2), set));
            return k == 0 ? all(d).longValueExact() : k > d.size() ? NONE : d.get(k - 1).longValueExact();
        }

        long chain(int chain, int edge) {
            return !isChain(chain) || !s.has(1, edge) ? BAD : s.numbers[chain].get(edge);
        }

        long ends(int chain, int point) {
            if (!isChain(chain) || !s.has(0, point)) {
                return BAD;
            }
            long sum = 0;
            for (int e = 0; e < s.edges.size(); e++) {
                int[] edge = s.edges.get(e);
                if (edge[1] == point) {
                    sum += s.numbers[chain].get(e);
                }
                if (edge[0] == point) {
                    sum -= s.numbers[chain].get(e);
                }
            }
            return sum;
        }

        /** Columns by whole steps into the form of Hermite, then whether a chain goes out of them. */
        static boolean inLattice(List<long[]> columns, long[] chain) {
            List<long[]> rest = new ArrayList<>();
            for (long[] c : columns) {
                rest.add(c.clone());
            }
            long[] x = chain.clone();
            for (int i = 0; i < x.length; i++) {
                long[] lead = null;
                for (int c = 0; c < rest.size(); c++) {
                    if (rest.get(c)[i] == 0) {
                        continue;
                    }
                    if (lead == null) {
                        lead = rest.get(c);
                        continue;
                    }
                    long[] other = rest.get(c);
                    while (other[i] != 0) {
                        long q = lead[i] / other[i];
                        for (int j = 0; j < x.length; j++) {
                            long v = lead[j] - q * other[j];
                            lead[j] = other[j];
                            other[j] = v;
                        }
                    }
                }
                if (lead == null) {
                    if (x[i] != 0) {
                        return false;
                    }
                    continue;
                }
                if (x[i] % lead[i] != 0) {
                    return false;
                }
                long q = x[i] / lead[i];
                for (int j = 0; j < x.length; j++) {
                    x[j] -= q * lead[j];
                }
                rest.remove(lead);
            }
            return true;
        }

        long order(int chain) {
            int[][] t = s.table(2);
            List<long[]> columns = new ArrayList<>();
            for (int f = 0; f < s.faces.size(); f++) {
                long[] c = new long[s.edges.size()];
                for (int e = 0; e < c.length; e++) {
                    c[e] = t[e][f];
                }
                columns.add(c);
            }
            for (int k = 1; k <= 256; k++) {
                long[] x = new long[s.edges.size()];
                for (int e = 0; e < x.length; e++) {
                    x[e] = (long) k * s.numbers[chain].get(e);
                }
                if (inLattice(columns, x)) {
                    return k;
                }
            }
            return NONE;
        }

        long whole(int chain, int what) {
            if (s.points == 0) {
                return STATE;
            }
            if (!isChain(chain) || what < 0 || what > 2) {
                return BAD;
            }
            if (what == 0) {
                for (int p = 0; p < s.points; p++) {
                    if (ends(chain, p) != 0) {
                        return 0;
                    }
                }
                return 1;
            }
            return what == 2 ? order(chain) : order(chain) == 1 ? 1 : 0;
        }

        static Q[][] rays(State s, int part) {
            int[][] t = s.table(part == 0 ? 2 : 1);
            int n = part == 0 ? s.faces.size() : s.points;
            Q[][] rays = new Q[n][s.edges.size()];
            for (int i = 0; i < n; i++) {
                for (int e = 0; e < s.edges.size(); e++) {
                    rays[i][e] = Q.of(part == 0 ? t[e][i] : t[i][e] * s.edges.get(e)[2]);
                }
            }
            return rays;
        }

        static Q product(State s, Q[] x, Q[] y) {
            Q sum = Q.ZERO;
            for (int e = 0; e < x.length; e++) {
                sum = sum.add(x[e].mul(y[e]).div(Q.of(s.edges.get(e)[2])));
            }
            return sum;
        }

        /** Gram and Schmidt: each ray less its shadow on those ahead, the chain's shadow on each. */
        static Q[] shadow(State s, Q[][] rays, Q[] chain) {
            List<Q[]> basis = new ArrayList<>();
            Q[] sum = new Q[chain.length];
            Arrays.fill(sum, Q.ZERO);
            for (Q[] ray : rays) {
                Q[] v = ray.clone();
                for (Q[] b : basis) {
                    Q f = product(s, v, b).div(product(s, b, b));
                    for (int e = 0; e < v.length; e++) {
                        v[e] = v[e].sub(f.mul(b[e]));
                    }
                }
                Q size = product(s, v, v);
                if (size.isZero()) {
                    continue;
                }
                basis.add(v);
                Q f = product(s, chain, v).div(size);
                for (int e = 0; e < v.length; e++) {
                    sum[e] = sum[e].add(f.mul(v[e]));
                }
            }
            return sum;
        }

        Q[] partOf(int chain, int part) {
            Q[] c = new Q[s.edges.size()];
            for (int e = 0; e < c.length; e++) {
                c[e] = Q.of(s.numbers[chain].get(e));
            }
            if (part == 3) {
                return c;
            }
            Q[] b = shadow(s, rays(s, 0), c), d = shadow(s, rays(s, 1), c);
            if (part < 2) {
                return part == 0 ? b : d;
            }
            for (int e = 0; e < c.length; e++) {
                c[e] = c[e].sub(b[e]).sub(d[e]);
            }
            return c;
        }

        static long side(Q q, int what) {
            return (what == 0 ? q.a : q.b).longValueExact();
        }

        long part(int chain, int part, int edge, int what) {
            if (!isChain(chain) || part < 0 || part > 2 || !s.has(1, edge) || what < 0 || what > 1) {
                return BAD;
            }
            return side(partOf(chain, part)[edge], what);
        }

        Q lengthOf(int chain, int part) {
            Q[] x = partOf(chain, part);
            return product(s, x, x);
        }

        long length(int chain, int part, int what) {
            if (s.points == 0) {
                return STATE;
            }
            if (!isChain(chain) || part < 0 || part > 3 || what < 0 || what > 1) {
                return BAD;
            }
            return side(lengthOf(chain, part), what);
        }

        long share(int chain, int part) {
            if (s.points == 0) {
                return STATE;
            }
            if (!isChain(chain) || part < 0 || part > 2) {
                return BAD;
            }
            if (notZero(chain) == 0) {
                return STATE;
            }
            Q q = lengthOf(chain, part).div(lengthOf(chain, 3));
            return (int) (q.a.floatValue() / q.b.floatValue() * 1000f);
        }

        long trees(int dim, int what) {
            if (s.points == 0) {
                return STATE;
            }
            if (dim != 1 && dim != 2 || what < 0 || what > 1) {
                return BAD;
            }
            int[][] t = s.table(dim);
            int r = rank(t, 0);
            long sum = 0;
            for (int set = 0; set < 1 << s.size(dim); set++) {
                int[][] c = columns(t, set);
                if (Integer.bitCount(set) != r || rank(c, 0) != r) {
                    continue;
                }
                long product = 1;
                for (int j = 0; j < s.size(dim); j++) {
                    if ((set >> j & 1) == 1) {
                        product *= dim == 1 ? s.edges.get(j)[2] : s.faces.get(j).w;
                    }
                }
                if (dim == 2) {
                    long twisted = all(smith(c)).longValueExact();
                    product *= twisted * twisted;
                }
                sum += what == 0 ? 1 : product;
            }
            return sum;
        }

        /** By the coefficients of the characteristic polynomial (Faddeev and LeVerrier). */
        long minors(int which) {
            if (s.points == 0) {
                return STATE;
            }
            if (which < 0 || which > 2) {
                return BAD;
            }
            int[][] a = nearTable(which);
            int n = a.length, r = rank(a, 0);
            Q[][] m = new Q[n][n];
            for (Q[] row : m) {
                Arrays.fill(row, Q.ZERO);
            }
            Q c = Q.ONE;
            for (int k = 1; k <= r; k++) {
                Q[][] next = new Q[n][n];
                for (int i = 0; i < n; i++) {
                    for (int j = 0; j < n; j++) {
                        next[i][j] = i == j ? c : Q.ZERO;
                        for (int l = 0; l < n; l++) {
                            next[i][j] = next[i][j].add(Q.of(a[i][l]).mul(m[l][j]));
                        }
                    }
                }
                m = next;
                Q trace = Q.ZERO;
                for (int i = 0; i < n; i++) {
                    for (int l = 0; l < n; l++) {
                        trace = trace.add(Q.of(a[i][l]).mul(m[l][i]));
                    }
                }
                c = trace.div(Q.of(-k));
            }
            return r % 2 == 0 ? c.a.longValueExact() : c.a.negate().longValueExact();
        }

        long image(int k) {
            if (k != 0 && k != 1) {
                return BAD;
            }
            if (s.points == 0) {
                return STATE;
            }
            images[k] = s.copy();
            return 1;
        }

        long restore(int k) {
            if (k != 0 && k != 1) {
                return BAD;
            }
            if (images[k] == null) {
                return STATE;
            }
            s = images[k].copy();
            acts.clear();
            return 1;
        }

        long count(int what) {
            return what < 0 || what > 4 ? BAD : what < 3 ? s.size(what) : what == 3 ? acts.size() : tape.length();
        }
    }
}
