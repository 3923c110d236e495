/**
 * A complex of points, edges and faces, chains of its edges, and what is to be known of them.
 * What each call answers is told in ../shared/DOC.md; the words of that page are used here.
 *
 * <p>All rows are made in the constructor and used again: a call makes no object.
 */
public final class ChainParts {
    public static final int NONE = -1000000;
    public static final int BAD = -1000001;
    public static final int STATE = -1000002;
    public static final int FULL = -1000003;

    private static final int FAULT_BASE = -1000100;
    private static final int POINT_ROOM = 5;
    private static final int EDGE_ROOM = 6;
    private static final int FACE_ROOM = 4;
    private static final int WORD_ROOM = 4;
    private static final int CHAIN_ROOM = 3;
    private static final int TAPE_ROOM = 90;
    private static final int ACT_ROOM = 8;
    private static final int IMAGE_ROOM = 2;
    private static final int MOST_WEIGHT = 3;
    private static final int MOST_NUMBER = 9;
    private static final int MOST_SEED = 999999;
    private static final int DRAW_FACTOR = 16807;
    private static final int DRAW_MODULUS = 2147483647;
    private static final int LETTERS_FROM = 10;
    private static final int BOUNDING = 0;
    private static final int DRIVEN = 1;
    private static final int HARMONIC = 2;
    private static final int ALL = 3;
    /** A multiple of each WEIGHT, so that a number by a WEIGHT is whole when this many times taken. */
    private static final int WEIGHT_MULTIPLE = 6;
    /** Far more than Euclid's steps for any two longs. */
    private static final int GCD_STEPS = 200;

    private final Cells cells = new Cells();
    /** What is being read, until it is known to have no FAULT. */
    private final Cells fresh = new Cells();
    private final Tape tape = new Tape();
    private final Word word = new Word();
    private final Grid grid = new Grid();
    private final Split split = new Split();
    /** A ring of what the latest ACTS found, newest at its place. */
    private final int[][] kept = new int[ACT_ROOM][Cells.SLOTS];
    private final int[][] images = new int[IMAGE_ROOM][Cells.SLOTS];
    private int newest = 0;
    private int acts = 0;
    private int latestFault = 0;

    public ChainParts() {
    }

    // ---- what is told

    public int feed(int letter) {
        if (letter < 0 || letter > 255) {
            return BAD;
        }
        return tape.append(letter) ? tape.size() : FULL;
    }

    public int complex() {
        boolean good = tape.readComplex(fresh, word);
        tape.clear();
        if (!good) {
            latestFault = tape.faultRead();
            return FAULT_BASE - tape.place();
        }
        cells.loadFrom(fresh.row());
        acts = 0;
        return cells.sizeOf(0) + cells.sizeOf(1) + cells.sizeOf(2);
    }

    public int fault() {
        return latestFault;
    }

    public int undo() {
        if (acts <= 0 || !isWithin(newest, kept.length)) {
            return STATE;
        }
        cells.loadFrom(kept[newest]);
        newest = (newest + ACT_ROOM - 1) % ACT_ROOM;
        acts--;
        return acts;
    }

    // ---- what is done

    public int weigh(int dim, int cell, int w) {
        if (!isUpperCell(dim, cell) || !isWeight(w)) {
            return BAD;
        }
        int old = cells.weightOf(dim, cell);
        keepAct();
        cells.setWeight(dim, cell, w);
        return old;
    }

    public int edge(int from, int to, int w) {
        if (!cells.isThere()) {
            return STATE;
        }
        if (!cells.hasCell(0, from) || !cells.hasCell(0, to) || !isWeight(w)) {
            return BAD;
        }
        if (cells.sizeOf(1) >= EDGE_ROOM) {
            return FULL;
        }
        keepAct();
        cells.addEdge(from, to, w);
        return cells.sizeOf(1) - 1;
    }

    public int face(int w) {
        boolean sewn = tape.readWord(cells, word);
        tape.clear();
        if (!cells.isThere()) {
            return STATE;
        }
        if (!sewn || !isWeight(w)) {
            return BAD;
        }
        if (cells.sizeOf(2) >= FACE_ROOM) {
            return FULL;
        }
        keepAct();
        cells.addFace(word, w);
        return cells.sizeOf(2) - 1;
    }

    public int drop(int dim, int cell) {
        if (!isUpperCell(dim, cell)) {
            return BAD;
        }
        if (dim == 1 && cells.isSewn(cell)) {
            return STATE;
        }
        keepAct();
        if (dim == 1) {
            cells.removeEdge(cell);
        } else {
            cells.removeFace(cell);
        }
        return cells.sizeOf(dim);
    }

    public int put(int chain, int edge, int v) {
        if (!isChain(chain) || !cells.hasCell(1, edge) || !isNumber(v)) {
            return BAD;
        }
        int old = cells.numberAt(chain, edge);
        keepAct();
        cells.setNumber(chain, edge, v);
        return old;
    }

    public int bound(int chain, int face, int t) {
        if (!isChain(chain) || !cells.hasCell(2, face) || !isNumber(t)) {
            return BAD;
        }
        for (int e = 0; e < cells.sizeOf(1); e++) {
            if (!isNumber(cells.numberAt(chain, e) + t * cells.entryOf(2, e, face))) {
                return FULL;
            }
        }
        keepAct();
        for (int e = 0; e < cells.sizeOf(1); e++) {
            cells.setNumber(chain, e, cells.numberAt(chain, e) + t * cells.entryOf(2, e, face));
        }
        return cells.numbersNotZero(chain);
    }

    public int drawn(int chain, int seed) {
        if (!cells.isThere()) {
            return STATE;
        }
        if (!isChain(chain) || seed < 1 || seed > MOST_SEED) {
            return BAD;
        }
        keepAct();
        long x = seed;
        for (int e = 0; e < cells.sizeOf(1); e++) {
            x = x * DRAW_FACTOR % DRAW_MODULUS;
            cells.setNumber(chain, e, (int) (x % (2 * MOST_NUMBER + 1)) - MOST_NUMBER);
        }
        return cells.numbersNotZero(chain);
    }

    // ---- cells

    public int cell(int dim, int cell, int what) {
        if (!isUpperCell(dim, cell)) {
            return BAD;
        }
        if (what == 0) {
            return cells.weightOf(dim, cell);
        }
        if (what == 1) {
            return dim == 1 ? cells.fromOf(cell) : cells.wordSize(cell);
        }
        if (what == 2) {
            return dim == 1 ? cells.toOf(cell) : cells.beginOf(cells.letterAt(cell, 0));
        }
        if (dim == 1 || what < LETTERS_FROM || what >= LETTERS_FROM + WORD_ROOM) {
            return BAD;
        }
        int k = what - LETTERS_FROM;
        return k < cells.wordSize(cell) ? cells.letterAt(cell, k) : NONE;
    }

    public int as(int dim, int cell, int kind) {
        if (!cells.hasCell(dim, cell) || kind < 0 || kind > 5) {
            return BAD;
        }
        return cells.isOfKind(dim, cell, kind) ? cell : NONE;
    }

    public int table(int dim, int i, int j) {
        if (dim < 1 || dim > 2 || !cells.hasCell(dim - 1, i) || !cells.hasCell(dim, j)) {
            return BAD;
        }
        return cells.entryOf(dim, i, j);
    }

    public int near(int which, int i, int j) {
        if (which < 0 || which > 2) {
            return BAD;
        }
        int dim = which == 0 ? 0 : 1;
        if (!cells.hasCell(dim, i) || !cells.hasCell(dim, j)) {
            return BAD;
        }
        return cells.nearOf(which, i, j);
    }

    public int rank(int dim, int p) {
        if (!cells.isThere()) {
            return STATE;
        }
        if (dim < 1 || dim > 2 || !isField(p)) {
            return BAD;
        }
        return tableRank(dim, p);
    }

    public int holes(int dim, int p) {
        if (!cells.isThere()) {
            return STATE;
        }
        if (dim < 0 || dim > 2 || !isField(p)) {
            return BAD;
        }
        int below = dim == 0 ? 0 : tableRank(dim, p);
        int above = dim == 2 ? 0 : tableRank(dim + 1, p);
        return cells.sizeOf(dim) - below - above;
    }

    public int twist(int set, int k) {
        if (!cells.isThere()) {
            return STATE;
        }
        if (set < 0 || set >= 1 << cells.sizeOf(2) || k < 0) {
            return BAD;
        }
        grid.loadTable(cells, 2);
        grid.fillMinors();
        if (k == 0) {
            return (int) grid.divisorOfMinors(grid.rankBy(0, set), set);
        }
        long common = grid.divisorOfMinors(k, set);
        long ahead = grid.divisorOfMinors(k - 1, set);
        return common == 0 || ahead == 0 ? NONE : (int) (common / ahead);
    }

    // ---- chains

    public int chain(int chain, int edge) {
        if (!isChain(chain) || !cells.hasCell(1, edge)) {
            return BAD;
        }
        return cells.numberAt(chain, edge);
    }

    public int ends(int chain, int point) {
        if (!isChain(chain) || !cells.hasCell(0, point)) {
            return BAD;
        }
        return cells.boundaryAt(chain, point);
    }

    public int whole(int chain, int what) {
        if (!cells.isThere()) {
            return STATE;
        }
        if (!isChain(chain) || what < 0 || what > 2) {
            return BAD;
        }
        if (what == 0) {
            return cells.isCycle(chain) ? 1 : 0;
        }
        long order = orderOf(chain);
        if (what == 1) {
            return order == 1 ? 1 : 0;
        }
        return order == 0 ? NONE : (int) order;
    }

    public long part(int chain, int part, int edge, int what) {
        if (!isChain(chain) || part < BOUNDING || part > HARMONIC || !cells.hasCell(1, edge) || !isSide(what)) {
            return BAD;
        }
        split.take(cells, chain, part);
        return lowestTerm(split.aboveAt(edge), split.below(), what);
    }

    public long length(int chain, int part, int what) {
        if (!cells.isThere()) {
            return STATE;
        }
        if (!isChain(chain) || part < BOUNDING || part > ALL || !isSide(what)) {
            return BAD;
        }
        split.take(cells, chain, part);
        return lowestTerm(split.lengthAbove(), WEIGHT_MULTIPLE * split.below(), what);
    }

    public int share(int chain, int part) {
        if (!cells.isThere()) {
            return STATE;
        }
        if (!isChain(chain) || part < BOUNDING || part > HARMONIC) {
            return BAD;
        }
        if (cells.numbersNotZero(chain) == 0) {
            return STATE;
        }
        split.take(cells, chain, ALL);
        long all = split.lengthAbove();
        split.take(cells, chain, part);
        float above = (float) lowestTerm(split.lengthAbove(), split.below() * all, 0);
        float below = (float) lowestTerm(split.lengthAbove(), split.below() * all, 1);
        return below > 0f ? (int) (above / below * 1000f) : STATE;
    }

    // ---- trees

    public long trees(int dim, int what) {
        if (!cells.isThere()) {
            return STATE;
        }
        if (dim < 1 || dim > 2 || !isSide(what)) {
            return BAD;
        }
        grid.loadTable(cells, dim);
        grid.fillMinors();
        int rank = grid.rankBy(0, grid.allColumns());
        long sum = 0;
        for (int set = 0; set <= grid.allColumns(); set++) {
            long twisted = Integer.bitCount(set) == rank ? grid.divisorOfMinors(rank, set) : 0;
            if (twisted != 0) {
                sum += what == 0 ? 1 : treeCount(dim, set, twisted);
            }
        }
        return sum;
    }

    public long minors(int which) {
        if (!cells.isThere()) {
            return STATE;
        }
        if (which < 0 || which > 2) {
            return BAD;
        }
        grid.loadNear(cells, which);
        grid.fillMinors();
        int rank = grid.rankBy(0, grid.allColumns());
        long sum = 0;
        for (int set = 0; set <= grid.allColumns(); set++) {
            if (Integer.bitCount(set) == rank) {
                sum += grid.minorOf(set, set);
            }
        }
        return sum;
    }

    public int image(int k) {
        if (!isWithin(k, images.length)) {
            return BAD;
        }
        if (!cells.isThere()) {
            return STATE;
        }
        cells.saveTo(images[k]);
        return 1;
    }

    public int restore(int k) {
        if (!isWithin(k, images.length)) {
            return BAD;
        }
        if (!Cells.isKeptIn(images[k])) {
            return STATE;
        }
        cells.loadFrom(images[k]);
        acts = 0;
        return 1;
    }

    public int count(int what) {
        if (what < 0 || what > 4) {
            return BAD;
        }
        if (what == 3) {
            return acts;
        }
        return what == 4 ? tape.size() : cells.sizeOf(what);
    }

    // ---- what the calls share

    private void keepAct() {
        newest = (newest + 1) % ACT_ROOM;
        if (isWithin(newest, kept.length)) {
            cells.saveTo(kept[newest]);
        }
        acts = Math.min(acts + 1, ACT_ROOM);
    }

    private int tableRank(int dim, int p) {
        grid.loadTable(cells, dim);
        grid.fillMinors();
        return grid.rankBy(p, grid.allColumns());
    }

    /**
     * The ORDER of a CHAIN, 0 if it has none. The whole times of columns fill their span the less
     * densely, the greater the divisor of their minors is; by as much as the divisor falls when the
     * CHAIN comes to the FACES, so many steps of the CHAIN lead back.
     */
    private long orderOf(int chain) {
        grid.loadTable(cells, 2);
        int faces = grid.allColumns();
        grid.addChain(cells, chain);
        grid.fillMinors();
        int all = grid.allColumns();
        int rank = grid.rankBy(0, faces);
        if (grid.rankBy(0, all) != rank) {
            return 0;
        }
        long divisor = grid.divisorOfMinors(rank, all);
        return divisor == 0 ? 0 : grid.divisorOfMinors(rank, faces) / divisor;
    }

    private long treeCount(int dim, int set, long twisted) {
        long product = dim == 2 ? twisted * twisted : 1;
        for (int cell = 0; cell < cells.sizeOf(dim); cell++) {
            if ((set >> cell & 1) == 1) {
                product *= cells.weightOf(dim, cell);
            }
        }
        return product;
    }

    /** Of above by below the number above (side 0), below (1), in lowest terms. */
    private static long lowestTerm(long above, long below, int side) {
        long common = gcd(above, below);
        if (common == 0) {
            return side;
        }
        return (side == 0 ? above : below) / common;
    }

    private static long gcd(long a, long b) {
        long x = Math.abs(a);
        long y = Math.abs(b);
        for (int i = 0; i < GCD_STEPS && y != 0; i++) {
            long left = x % y;
            x = y;
            y = left;
        }
        return x;
    }

    private boolean isUpperCell(int dim, int cell) {
        return dim != 0 && cells.hasCell(dim, cell);
    }

    private static boolean isWithin(int i, int room) {
        return i >= 0 && i < room;
    }

    private static boolean isChain(int chain) {
        return isWithin(chain, CHAIN_ROOM);
    }

    private static boolean isWeight(int w) {
        return w >= 1 && w <= MOST_WEIGHT;
    }

    private static boolean isNumber(int v) {
        return v >= -MOST_NUMBER && v <= MOST_NUMBER;
    }

    private static boolean isSide(int what) {
        return what == 0 || what == 1;
    }

    private static boolean isField(int p) {
        return p == 0 || p == 2 || p == 3 || p == 5 || p == 7;
    }

    /** A COMPLEX and its CHAINS, in one row of numbers, so that an ACT or an IMAGE keeps all by one copy. */
    private static final class Cells {
        private static final int FROM = 3;
        private static final int TO = FROM + EDGE_ROOM;
        private static final int EDGE_WEIGHT = TO + EDGE_ROOM;
        private static final int FACE_WEIGHT = EDGE_WEIGHT + EDGE_ROOM;
        private static final int WORD_SIZE = FACE_WEIGHT + FACE_ROOM;
        private static final int LETTERS = WORD_SIZE + FACE_ROOM;
        private static final int NUMBERS = LETTERS + FACE_ROOM * WORD_ROOM;
        static final int SLOTS = NUMBERS + CHAIN_ROOM * EDGE_ROOM;

        /** The first three tell how many POINTS, EDGES, FACES there are; no POINT: no COMPLEX. */
        private final int[] slots = new int[SLOTS];

        int[] row() {
            return slots;
        }

        void clear() {
            for (int i = 0; i < slots.length; i++) {
                slots[i] = 0;
            }
        }

        void saveTo(int[] row) {
            if (row != null && row.length == slots.length) {
                System.arraycopy(slots, 0, row, 0, slots.length);
            }
        }

        void loadFrom(int[] row) {
            if (row != null && row.length == slots.length) {
                System.arraycopy(row, 0, slots, 0, slots.length);
            }
        }

        static boolean isKeptIn(int[] row) {
            return row != null && row.length > 0 && row[0] > 0;
        }

        private int slot(int i) {
            return i >= 0 && i < slots.length ? slots[i] : 0;
        }

        private void setSlot(int i, int v) {
            if (i >= 0 && i < slots.length) {
                slots[i] = v;
            }
        }

        boolean isThere() {
            return sizeOf(0) > 0;
        }

        int sizeOf(int dim) {
            return dim >= 0 && dim <= 2 ? slot(dim) : 0;
        }

        boolean hasCell(int dim, int cell) {
            return isWithin(cell, sizeOf(dim));
        }

        void setPoints(int points) {
            setSlot(0, points);
        }

        int fromOf(int edge) {
            return slot(FROM + edge);
        }

        int toOf(int edge) {
            return slot(TO + edge);
        }

        int weightOf(int dim, int cell) {
            return slot((dim == 1 ? EDGE_WEIGHT : FACE_WEIGHT) + cell);
        }

        void setWeight(int dim, int cell, int w) {
            setSlot((dim == 1 ? EDGE_WEIGHT : FACE_WEIGHT) + cell, w);
        }

        int wordSize(int face) {
            return slot(WORD_SIZE + face);
        }

        int letterAt(int face, int k) {
            return slot(LETTERS + face * WORD_ROOM + k);
        }

        int numberAt(int chain, int edge) {
            return slot(NUMBERS + chain * EDGE_ROOM + edge);
        }

        void setNumber(int chain, int edge, int v) {
            setSlot(NUMBERS + chain * EDGE_ROOM + edge, v);
        }

        /** The POINT at which a letter of a WORD begins. */
        int beginOf(int letter) {
            int edge = Word.edgeOf(letter);
            return Word.isBackward(letter) ? toOf(edge) : fromOf(edge);
        }

        int endOf(int letter) {
            int edge = Word.edgeOf(letter);
            return Word.isBackward(letter) ? fromOf(edge) : toOf(edge);
        }

        void addEdge(int from, int to, int w) {
            int edge = sizeOf(1);
            if (edge >= EDGE_ROOM) {
                return;
            }
            setSlot(FROM + edge, from);
            setSlot(TO + edge, to);
            setWeight(1, edge, w);
            for (int chain = 0; chain < CHAIN_ROOM; chain++) {
                setNumber(chain, edge, 0);
            }
            setSlot(1, edge + 1);
        }

        void addFace(Word word, int w) {
            int face = sizeOf(2);
            if (face >= FACE_ROOM) {
                return;
            }
            setWeight(2, face, w);
            setSlot(WORD_SIZE + face, word.size());
            for (int k = 0; k < WORD_ROOM; k++) {
                setSlot(LETTERS + face * WORD_ROOM + k, word.letterAt(k));
            }
            setSlot(2, face + 1);
        }

        boolean isSewn(int edge) {
            for (int face = 0; face < sizeOf(2); face++) {
                for (int k = 0; k < wordSize(face); k++) {
                    if (Word.edgeOf(letterAt(face, k)) == edge) {
                        return true;
                    }
                }
            }
            return false;
        }

        void removeEdge(int edge) {
            int last = sizeOf(1) - 1;
            for (int e = edge; e < last; e++) {
                setSlot(FROM + e, fromOf(e + 1));
                setSlot(TO + e, toOf(e + 1));
                setWeight(1, e, weightOf(1, e + 1));
                for (int chain = 0; chain < CHAIN_ROOM; chain++) {
                    setNumber(chain, e, numberAt(chain, e + 1));
                }
            }
            setSlot(1, last);
            lowerLettersBehind(edge);
        }

        private void lowerLettersBehind(int edge) {
            for (int face = 0; face < sizeOf(2); face++) {
                for (int k = 0; k < wordSize(face); k++) {
                    int letter = letterAt(face, k);
                    if (Word.edgeOf(letter) > edge) {
                        setSlot(LETTERS + face * WORD_ROOM + k, letter - 1);
                    }
                }
            }
        }

        void removeFace(int face) {
            int last = sizeOf(2) - 1;
            for (int f = face; f < last; f++) {
                setWeight(2, f, weightOf(2, f + 1));
                setSlot(WORD_SIZE + f, wordSize(f + 1));
                for (int k = 0; k < WORD_ROOM; k++) {
                    setSlot(LETTERS + f * WORD_ROOM + k, letterAt(f + 1, k));
                }
            }
            setSlot(2, last);
        }

        boolean isOfKind(int dim, int cell, int kind) {
            switch (kind) {
                case 0:
                    return true;
                case 1:
                    return dim == 0;
                case 2:
                    return dim == 1;
                case 3:
                    return dim == 1 && fromOf(cell) == toOf(cell);
                case 4:
                    return dim == 2;
                case 5:
                    return dim == 2 && isSealed(cell);
                default:
                    return false;
            }
        }

        private boolean isSealed(int face) {
            for (int e = 0; e < sizeOf(1); e++) {
                if (entryOf(2, e, face) != 0) {
                    return false;
                }
            }
            return true;
        }

        /** TABLE dim, row i, column j. */
        int entryOf(int dim, int i, int j) {
            if (dim == 1) {
                return (toOf(j) == i ? 1 : 0) - (fromOf(j) == i ? 1 : 0);
            }
            int sum = 0;
            for (int k = 0; k < wordSize(j); k++) {
                int letter = letterAt(j, k);
                if (Word.edgeOf(letter) == i) {
                    sum += Word.isBackward(letter) ? -1 : 1;
                }
            }
            return sum;
        }

        /** NEIGHBOURS which, row i, column j. */
        int nearOf(int which, int i, int j) {
            int sum = 0;
            if (which == 1) {
                for (int point = 0; point < sizeOf(0); point++) {
                    sum += entryOf(1, point, i) * entryOf(1, point, j);
                }
                return sum;
            }
            int dim = which == 0 ? 1 : 2;
            for (int cell = 0; cell < sizeOf(dim); cell++) {
                sum += entryOf(dim, i, cell) * weightOf(dim, cell) * entryOf(dim, j, cell);
            }
            return sum;
        }

        int numbersNotZero(int chain) {
            int many = 0;
            for (int e = 0; e < sizeOf(1); e++) {
                if (numberAt(chain, e) != 0) {
                    many++;
                }
            }
            return many;
        }

        int boundaryAt(int chain, int point) {
            int sum = 0;
            for (int e = 0; e < sizeOf(1); e++) {
                sum += numberAt(chain, e) * entryOf(1, point, e);
            }
            return sum;
        }

        boolean isCycle(int chain) {
            for (int point = 0; point < sizeOf(0); point++) {
                if (boundaryAt(chain, point) != 0) {
                    return false;
                }
            }
            return true;
        }
    }

    /** A WORD that is being sewn, letter by letter. */
    private static final class Word {
        private final int[] letters = new int[WORD_ROOM];
        private int size = 0;

        static boolean isBackward(int code) {
            return code >= 'A' && code <= 'Z';
        }

        /** The number of the EDGE that a letter would mean; -1 for what is no letter. */
        static int edgeOf(int code) {
            if (code >= 'A' && code <= 'Z') {
                return code - 'A';
            }
            return code >= 'a' && code <= 'z' ? code - 'a' : -1;
        }

        void clear() {
            size = 0;
        }

        int size() {
            return size;
        }

        int letterAt(int k) {
            return k < size && isWithin(k, letters.length) ? letters[k] : 0;
        }

        /** Takes a letter behind the others, if it goes on from them. */
        boolean append(Cells cells, int code) {
            if (!isWithin(size, letters.length) || !cells.hasCell(1, edgeOf(code))) {
                return false;
            }
            if (size > 0 && cells.beginOf(code) != cells.endOf(letterAt(size - 1))) {
                return false;
            }
            letters[size] = code;
            size++;
            return true;
        }

        boolean isClosed(Cells cells) {
            return size > 0 && cells.beginOf(letterAt(0)) == cells.endOf(letterAt(size - 1));
        }
    }

    /** The tape, and the reading of it: the place stays at the TOKEN that has a FAULT. */
    private static final class Tape {
        private static final int CANNOT_STAND = 1;
        private static final int NOT_AS_TOLD = 2;
        private static final int NO_ROOM = 3;

        private final int[] bytes = new int[TAPE_ROOM];
        private int size = 0;
        private int place = 0;
        private int faultRead = 0;

        boolean append(int letter) {
            if (!isWithin(size, bytes.length)) {
                return false;
            }
            bytes[size] = letter;
            size++;
            return true;
        }

        void clear() {
            size = 0;
        }

        int size() {
            return size;
        }

        int place() {
            return place;
        }

        int faultRead() {
            return faultRead;
        }

        private int token(int i) {
            return i < size && isWithin(i, bytes.length) ? bytes[i] : -1;
        }

        /** Reads all of the tape as one WORD; false: it is none. */
        boolean readWord(Cells cells, Word word) {
            word.clear();
            for (int i = 0; i < size; i++) {
                if (!word.append(cells, token(i))) {
                    return false;
                }
            }
            return word.isClosed(cells);
        }

        /** Reads a whole COMPLEX; false: place and faultRead tell the FAULT. */
        boolean readComplex(Cells into, Word word) {
            into.clear();
            place = 0;
            faultRead = 0;
            takeSign('c');
            into.setPoints(takeDigit(1, POINT_ROOM));
            takeSign(';');
            for (int i = 0; i < TAPE_ROOM && faultRead == 0 && token(place) == 'e'; i++) {
                readEdge(into);
            }
            for (int i = 0; i < TAPE_ROOM && faultRead == 0 && token(place) == 'f'; i++) {
                readFace(into, word);
            }
            if (faultRead == 0 && place < size) {
                faultRead = CANNOT_STAND;
            }
            return faultRead == 0;
        }

        private void readEdge(Cells into) {
            if (into.sizeOf(1) >= EDGE_ROOM) {
                faultRead = NO_ROOM;
                return;
            }
            takeSign('e');
            int from = takeDigit(0, into.sizeOf(0) - 1);
            int to = takeDigit(0, into.sizeOf(0) - 1);
            int w = takeDigit(1, MOST_WEIGHT);
            takeSign(';');
            if (faultRead == 0) {
                into.addEdge(from, to, w);
            }
        }

        private void readFace(Cells into, Word word) {
            if (into.sizeOf(2) >= FACE_ROOM) {
                faultRead = NO_ROOM;
                return;
            }
            takeSign('f');
            int w = takeDigit(1, MOST_WEIGHT);
            word.clear();
            for (int i = 0; i < TAPE_ROOM && faultRead == 0 && Word.edgeOf(token(place)) >= 0; i++) {
                if (word.append(into, token(place))) {
                    place++;
                } else {
                    faultRead = NOT_AS_TOLD;
                }
            }
            if (faultRead == 0 && token(place) == ';' && word.size() > 0 && !word.isClosed(into)) {
                faultRead = NOT_AS_TOLD;
            }
            if (faultRead == 0 && word.size() == 0) {
                faultRead = CANNOT_STAND;
            }
            takeSign(';');
            if (faultRead == 0) {
                into.addFace(word, w);
            }
        }

        private void takeSign(int sign) {
            if (faultRead != 0) {
                return;
            }
            if (token(place) == sign) {
                place++;
            } else {
                faultRead = CANNOT_STAND;
            }
        }

        private int takeDigit(int least, int most) {
            if (faultRead != 0) {
                return 0;
            }
            int digit = token(place) - '0';
            if (!isWithin(digit, 10)) {
                faultRead = CANNOT_STAND;
                return 0;
            }
            if (digit < least || digit > most) {
                faultRead = NOT_AS_TOLD;
                return 0;
            }
            place++;
            return digit;
        }
    }

    /** A table of whole numbers and all its minors; sets of rows and of columns are bits. */
    private static final class Grid {
        private static final int SIDE = 6;
        private static final int SETS = 1 << SIDE;

        private final long[][] values = new long[SIDE][SIDE];
        /** By the set of rows, times SETS, and the set of columns; told where these are as many. */
        private final long[] minorRow = new long[SETS * SETS];
        private int rows = 0;
        private int columns = 0;

        void loadTable(Cells cells, int dim) {
            rows = Math.min(cells.sizeOf(dim - 1), SIDE);
            columns = Math.min(cells.sizeOf(dim), SIDE);
            for (int i = 0; i < rows; i++) {
                for (int j = 0; j < columns; j++) {
                    values[i][j] = cells.entryOf(dim, i, j);
                }
            }
        }

        void loadNear(Cells cells, int which) {
            rows = Math.min(cells.sizeOf(which == 0 ? 0 : 1), SIDE);
            columns = rows;
            for (int i = 0; i < rows; i++) {
                for (int j = 0; j < columns; j++) {
                    values[i][j] = cells.nearOf(which, i, j);
                }
            }
        }

        /** A CHAIN as one column more. */
        void addChain(Cells cells, int chain) {
            if (!isWithin(columns, SIDE)) {
                return;
            }
            for (int i = 0; i < rows; i++) {
                values[i][columns] = cells.numberAt(chain, i);
            }
            columns++;
        }

        int allColumns() {
            return (1 << columns) - 1;
        }

        long minorOf(int rowSet, int columnSet) {
            int i = rowSet * SETS + columnSet;
            return isWithin(i, minorRow.length) ? minorRow[i] : 0;
        }

        /** Each minor comes from those of one row less, which have lesser sets and are told by then. */
        void fillMinors() {
            minorRow[0] = 1;
            for (int rowSet = 1; rowSet < 1 << rows; rowSet++) {
                int size = Integer.bitCount(rowSet);
                for (int columnSet = 1; columnSet < 1 << columns; columnSet++) {
                    int i = rowSet * SETS + columnSet;
                    if (Integer.bitCount(columnSet) == size && isWithin(i, minorRow.length)) {
                        minorRow[i] = expandedMinor(rowSet, columnSet);
                    }
                }
            }
        }

        private long expandedMinor(int rowSet, int columnSet) {
            int lowest = rowSet & -rowSet;
            int top = Integer.bitCount(lowest - 1);
            if (!isWithin(top, SIDE)) {
                return 0;
            }
            long sum = 0;
            long sign = 1;
            for (int j = 0; j < columns; j++) {
                int bit = 1 << j;
                if ((columnSet & bit) != 0) {
                    if (values[top][j] != 0) {
                        sum += sign * values[top][j] * minorOf(rowSet - lowest, columnSet - bit);
                    }
                    sign = -sign;
                }
            }
            return sum;
        }

        /** The RANK of some columns, by a prime p (0: over fractions): the size of the greatest minor that is not 0. */
        int rankBy(int p, int columnSet) {
            int most = 0;
            for (int rowSet = 1; rowSet < 1 << rows; rowSet++) {
                int size = Integer.bitCount(rowSet);
                for (int set = 1; size > most && set <= columnSet; set++) {
                    if ((set & ~columnSet) == 0 && Integer.bitCount(set) == size && !isZero(minorOf(rowSet, set), p)) {
                        most = size;
                    }
                }
            }
            return most;
        }

        private static boolean isZero(long minor, int p) {
            return p == 0 ? minor == 0 : minor % p == 0;
        }

        /** The greatest common divisor of all minors of so many rows and of these columns; 0 if all are 0. */
        long divisorOfMinors(int size, int columnSet) {
            long common = 0;
            for (int rowSet = 0; rowSet < 1 << rows; rowSet++) {
                if (Integer.bitCount(rowSet) != size) {
                    continue;
                }
                for (int set = 0; common != 1 && set <= columnSet; set++) {
                    if ((set & ~columnSet) == 0 && Integer.bitCount(set) == size) {
                        common = gcd(common, minorOf(rowSet, set));
                    }
                }
            }
            return common;
        }
    }

    /** A PART of a CHAIN: for each EDGE a number above, all by one number below. */
    private static final class Split {
        private final long[] above = new long[EDGE_ROOM];
        private long below = 1;
        private int edges = 0;
        private final long[] numbers = new long[EDGE_ROOM];
        /** WEIGHT_MULTIPLE by the WEIGHT of each EDGE. */
        private final long[] measure = new long[EDGE_ROOM];
        /** What spans a PART: the BOUNDARIES of FACES, or for each POINT what is driven by it alone. */
        private final long[][] rays = new long[POINT_ROOM][EDGE_ROOM];
        private int rayCount = 0;
        /** Products of rays, by measure, and behind them those of each ray and the CHAIN. */
        private final long[][] system = new long[POINT_ROOM][POINT_ROOM + 1];
        private final long[] shadow = new long[EDGE_ROOM];
        private long shadowBelow = 1;

        long aboveAt(int edge) {
            return isWithin(edge, above.length) ? above[edge] : 0;
        }

        long below() {
            return below;
        }

        /**
         * The LENGTH of the PART, times below and WEIGHT_MULTIPLE: its product with the whole CHAIN,
         * as it is perpendicular to the other PARTS. That stays far smaller than squares would.
         */
        long lengthAbove() {
            long sum = 0;
            for (int e = 0; e < edges; e++) {
                sum += above[e] * numbers[e] * measure[e];
            }
            return sum;
        }

        void take(Cells cells, int chain, int part) {
            loadChain(cells, chain);
            if (part == BOUNDING || part == DRIVEN) {
                loadRays(cells, part);
                castShadow();
                for (int e = 0; e < edges; e++) {
                    above[e] = shadow[e];
                }
                below = shadowBelow;
            }
            if (part == HARMONIC) {
                loadRays(cells, BOUNDING);
                castShadow();
                takeShadowAway();
                loadRays(cells, DRIVEN);
                castShadow();
                takeShadowAway();
            }
        }

        private void loadChain(Cells cells, int chain) {
            edges = Math.min(cells.sizeOf(1), EDGE_ROOM);
            below = 1;
            for (int e = 0; e < edges; e++) {
                int w = cells.weightOf(1, e);
                numbers[e] = cells.numberAt(chain, e);
                measure[e] = w > 0 ? WEIGHT_MULTIPLE / w : WEIGHT_MULTIPLE;
                above[e] = numbers[e];
            }
        }

        private void loadRays(Cells cells, int part) {
            rayCount = Math.min(cells.sizeOf(part == BOUNDING ? 2 : 0), POINT_ROOM);
            for (int r = 0; r < rayCount; r++) {
                for (int e = 0; e < edges; e++) {
                    rays[r][e] = part == BOUNDING
                            ? cells.entryOf(2, e, r)
                            : cells.entryOf(1, r, e) * cells.weightOf(1, e);
                }
            }
        }

        /** The CHAIN's shadow on the span of the rays. */
        private void castShadow() {
            fillSystem();
            solveSystem();
            for (int e = 0; e < edges; e++) {
                shadow[e] = 0;
                for (int r = 0; r < rayCount; r++) {
                    shadow[e] += system[r][rayCount] * rays[r][e];
                }
            }
            lowerShadow();
        }

        private void fillSystem() {
            for (int r = 0; r < rayCount; r++) {
                for (int s = 0; s < rayCount; s++) {
                    system[r][s] = product(rays[r], rays[s]);
                }
                system[r][rayCount] = product(rays[r], numbers);
            }
        }

        private long product(long[] x, long[] y) {
            long sum = 0;
            for (int e = 0; e < edges; e++) {
                sum += x[e] * y[e] * measure[e];
            }
            return sum;
        }

        /**
         * Elimination in whole numbers: each division by the pivot ahead leaves nothing, as all that
         * stands there are minors. A ray whose pivot is 0 depends on those ahead: its row is 0 then,
         * and the shadow does without it.
         */
        private void solveSystem() {
            long ahead = 1;
            for (int k = 0; k < rayCount; k++) {
                long pivot = system[k][k];
                if (pivot == 0) {
                    continue;
                }
                for (int r = 0; r < rayCount; r++) {
                    if (r != k) {
                        eliminate(r, k, ahead);
                    }
                }
                ahead = pivot;
            }
            shadowBelow = ahead;
        }

        private void eliminate(int r, int k, long ahead) {
            if (ahead == 0 || !isWithin(r, POINT_ROOM) || !isWithin(k, POINT_ROOM)) {
                return;
            }
            long pivot = system[k][k];
            long factor = system[r][k];
            for (int s = 0; s <= rayCount && s <= POINT_ROOM; s++) {
                system[r][s] = (pivot * system[r][s] - factor * system[k][s]) / ahead;
            }
        }

        private void lowerShadow() {
            long common = shadowBelow;
            for (int e = 0; e < edges; e++) {
                common = gcd(common, shadow[e]);
            }
            if (common == 0) {
                return;
            }
            for (int e = 0; e < edges; e++) {
                shadow[e] /= common;
            }
            shadowBelow /= common;
        }

        private void takeShadowAway() {
            for (int e = 0; e < edges; e++) {
                above[e] = above[e] * shadowBelow - shadow[e] * below;
            }
            below *= shadowBelow;
        }
    }
}
