import java.lang.annotation.Retention;
import java.lang.annotation.RetentionPolicy;
import java.lang.reflect.Method;
import java.lang.reflect.Modifier;
import java.util.Arrays;
import java.util.Comparator;

/**
 * One object of the class, its calls told as texts ("put 0 0 9"). It counts them, as nothing is
 * promised behind the 512th, and a call that throws has a wrong answer.
 */
final class Caller {
    /** The sentence of the document that a test is about, in the document's words. */
    @Retention(RetentionPolicy.RUNTIME)
    @interface Says {
        String value();
    }

    static final int NONE = -1000000, BAD = -1000001, STATE = -1000002, FULL = -1000003;
    static final int LOW = Integer.MIN_VALUE, HIGH = Integer.MAX_VALUE;
    private static final int MOST_CALLS = 512;
    private static final int MOST_TOLD = 12;
    private static int asked = 0;
    private static int wrong = 0;
    private static String about = "";

    private final ChainParts x = new ChainParts();
    private final StringBuilder told = new StringBuilder();
    private boolean asDue = true;
    private int calls = 0;

    // ---- tests

    /** Runs all tests of a class: its static methods that have a sentence. */
    static void runAll(Class<?> tests) throws ReflectiveOperationException {
        Method[] methods = tests.getDeclaredMethods();
        Arrays.sort(methods, Comparator.comparing(Method::getName));
        int many = 0;
        for (Method m : methods) {
            Says says = m.getAnnotation(Says.class);
            if (says != null && Modifier.isStatic(m.getModifiers()) && m.getParameterCount() == 0) {
                about = m.getName() + " (" + says.value() + ")";
                m.invoke(null);
                many++;
            }
        }
        System.out.println(many + " tests, " + asked + " answers asked for, " + wrong + " wrong");
        if (wrong != 0 || many == 0) {
            System.exit(1);
        }
    }

    static boolean same(String what, Object got, Object want) {
        asked++;
        if (!got.equals(want)) {
            wrong++;
            if (wrong <= MOST_TOLD) {
                System.out.println(about + "\n   " + what + " answered " + got + ", due is " + want);
            }
        }
        return got.equals(want);
    }

    // ---- calls

    /** A new object that has read a COMPLEX. */
    static Caller reads(String text) {
        Caller o = new Caller();
        o.tape(text);
        int cells = text.charAt(1) - '0' + (int) text.chars().filter(c -> c == ';').count() - 1;
        return o.is("complex", cells);
    }

    /** Calls whose answers are not looked at; "tape c1;" stands for one feed for each byte. */
    Caller does(String... calls) {
        for (String call : calls) {
            if (call.startsWith("tape ")) {
                tape(call.substring(5));
            } else {
                answer(call);
            }
        }
        return this;
    }

    Caller tape(String text) {
        for (int i = 0; i < text.length(); i++) {
            answer("feed " + (int) text.charAt(i));
        }
        return this;
    }

    /** A call whose answer is due. Of one object the first wrong answer alone is told: those behind it may follow from it. */
    Caller is(String call, long want) {
        String ahead = told.toString();
        String got = answer(call);
        if (asDue) {
            asDue = same(ahead + call, got, String.valueOf(want));
        }
        return this;
    }

    /** What a call answers, or that it throws. */
    String answer(String call) {
        calls++;
        if (calls > MOST_CALLS) {
            throw new IllegalStateException("a test of " + about + " makes more than " + MOST_CALLS + " calls");
        }
        String[] words = call.split(" ");
        int[] a = new int[4];
        for (int i = 1; i < words.length; i++) {
            a[i - 1] = Integer.parseInt(words[i]);
        }
        String answer;
        try {
            answer = String.valueOf(made(words[0], words.length - 1, a));
        } catch (RuntimeException e) {
            answer = e.toString();
        }
        if (words[0].equals("feed") && a[0] > ' ' && a[0] < 127 && answer.charAt(0) != '-') {
            told.append((char) a[0]);
        } else {
            told.append(" [").append(call).append(" = ").append(answer).append("] ");
        }
        return answer;
    }

    private long made(String name, int size, int[] a) {
        switch (name + "/" + size) {
            case "feed/1": return x.feed(a[0]);
            case "complex/0": return x.complex();
            case "fault/0": return x.fault();
            case "undo/0": return x.undo();
            case "weigh/3": return x.weigh(a[0], a[1], a[2]);
            case "edge/3": return x.edge(a[0], a[1], a[2]);
            case "face/1": return x.face(a[0]);
            case "drop/2": return x.drop(a[0], a[1]);
            case "put/3": return x.put(a[0], a[1], a[2]);
            case "bound/3": return x.bound(a[0], a[1], a[2]);
            case "drawn/2": return x.drawn(a[0], a[1]);
            case "cell/3": return x.cell(a[0], a[1], a[2]);
            case "as/3": return x.as(a[0], a[1], a[2]);
            case "table/3": return x.table(a[0], a[1], a[2]);
            case "near/3": return x.near(a[0], a[1], a[2]);
            case "rank/2": return x.rank(a[0], a[1]);
            case "holes/2": return x.holes(a[0], a[1]);
            case "twist/2": return x.twist(a[0], a[1]);
            case "chain/2": return x.chain(a[0], a[1]);
            case "ends/2": return x.ends(a[0], a[1]);
            case "whole/2": return x.whole(a[0], a[1]);
            case "part/4": return x.part(a[0], a[1], a[2], a[3]);
            case "length/3": return x.length(a[0], a[1], a[2]);
            case "share/2": return x.share(a[0], a[1]);
            case "trees/2": return x.trees(a[0], a[1]);
            case "minors/1": return x.minors(a[0]);
            case "image/1": return x.image(a[0]);
            case "restore/1": return x.restore(a[0]);
            case "count/1": return x.count(a[0]);
            default: throw new UnsupportedOperationException("no such call: " + name + " of " + size);
        }
    }

    // ---- more than one answer

    /** The numbers of a CHAIN, put one by one. */
    Caller chain(int chain, int... numbers) {
        for (int e = 0; e < numbers.length; e++) {
            answer("put " + chain + " " + e + " " + numbers[e]);
        }
        return this;
    }

    Caller chainIs(int chain, int... numbers) {
        for (int e = 0; e < numbers.length; e++) {
            is("chain " + chain + " " + e, numbers[e]);
        }
        return is("chain " + chain + " " + numbers.length, BAD);
    }

    /** A fraction that a call tells: above for 0 as its last number, below for 1. */
    Caller fraction(String call, long above, long below) {
        return is(call + " 0", above).is(call + " 1", below);
    }

    /** Each of these calls answers the same. */
    Caller all(long want, String... calls) {
        for (String call : calls) {
            is(call, want);
        }
        return this;
    }

    /** All that can be seen by calls that change nothing; without the latest FAULT, if that is not wanted. */
    String sight(boolean withFault) {
        StringBuilder b = new StringBuilder();
        b.append("fault ").append(withFault ? answer("fault") : "?");
        for (int what = 0; what < 5; what++) {
            b.append(" count ").append(answer("count " + what));
        }
        return b.append("; ").append(cellsAndChains()).toString();
    }

    /** The COMPLEX and the CHAINS, cell by cell. */
    String cellsAndChains() {
        StringBuilder b = new StringBuilder("points " + answer("count 0") + ";");
        int edges = Integer.parseInt(answer("count 1"));
        int faces = Integer.parseInt(answer("count 2"));
        for (int e = 0; e < edges; e++) {
            for (String call : new String[] {"cell 1 E 0", "cell 1 E 1", "cell 1 E 2", "chain 0 E", "chain 1 E", "chain 2 E"}) {
                b.append(" ").append(answer(call.replace("E", String.valueOf(e))));
            }
            b.append(";");
        }
        for (int f = 0; f < faces; f++) {
            for (int what : new int[] {0, 1, 10, 11, 12, 13}) {
                b.append(" ").append(answer("cell 2 " + f + " " + what));
            }
            b.append(";");
        }
        return b.toString();
    }
}
