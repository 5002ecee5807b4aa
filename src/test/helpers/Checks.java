import java.util.Set;
import java.util.TreeSet;

/** What the tests share: checks that name the sentence they stand for, calls by number, objects made from texts. */
class Checks {
    static final int INVALID = -1000001;
    static final int NOT_POSSIBLE = -1000002;
    static final int LIMIT = -1000003;
    static final int NOT_FOUND = -1000004;
    static final int[] FAR = {Integer.MIN_VALUE, Integer.MIN_VALUE + 1, -1000001, 1000001, Integer.MAX_VALUE};

    /** A counter of four bits, that stands still unless the input 0 is 1. */
    static final String COUNTER = "220;002;237;073;249;094;25b;r060;r180;r2a0;r3c0;";
    /** A counter of four bits; the wire c is 1 in its last state alone. */
    static final String FREE_COUNTER = "52e;223;023;248;084;25a;0a5;r060;r170;r290;r3b0;";
    /** Goes through 15 states and comes back to its first one. */
    static final String FIFTEEN = "245;r061;r120;r230;r340;";
    /** Four registers behind one another, the first one behind the input 0. */
    static final String CHAIN = "r000;r120;r230;r340;";

    static final String[] NAMES = {"gate", "dropGate", "register", "output", "copy", "circuitOf", "bit", "behind",
        "run", "share", "pairOf", "pairs", "apart", "late", "same", "kinds", "count", "undo", "type", "clearText",
        "fault", "read"};
    static final int[] ARGUMENTS = {5, 1, 4, 2, 1, 2, 4, 3, 4, 2, 2, 0, 1, 0, 1, 1, 1, 0, 1, 0, 1, 1};

    private static final Set<Integer> promises = new TreeSet<>();
    private static String sentence = "";
    private static int sentences = 0;
    private static int checks = 0;
    private static int checksAhead = 0;
    private static int wrong = 0;

    /** The checks that come now stand for a sentence of DOC.md, on which a promise rests. */
    static void sentence(int promise, String quote) {
        endSentence();
        promises.add(promise);
        sentences++;
        sentence = "promise " + promise + ", \"" + quote + "\": ";
    }

    // a sentence without a check would look tested and would not be
    private static void endSentence() {
        if (!sentence.isEmpty() && checks == checksAhead) {
            wrong++;
            System.out.println(sentence + "no check");
        }
        checksAhead = checks;
    }

    static void due(String call, int got, int want) {
        checks++;
        if (got != want) {
            wrong++;
            System.out.println(sentence + call + " answered " + got + ", due is " + want);
        }
    }

    static void due(String said, boolean holds) {
        checks++;
        if (!holds) {
            wrong++;
            System.out.println(sentence + said);
        }
    }

    /** Ends a test in which each promise from the first to the last one has a sentence. */
    static void finish(int first, int last) {
        for (int promise = first; promise <= last; promise++) {
            due("no sentence of promise " + promise, promises.contains(promise));
        }
        finish();
    }

    static void finish() {
        endSentence();
        System.out.println((sentences == 0 ? "" : sentences + " sentences, ") + checks + " checks, " + wrong
            + " wrong");
        if (wrong != 0) {
            System.exit(1);
        }
    }

    // ---- calls by number: the place of the name in NAMES, then the arguments

    static int answer(TickCircuits x, int... c) {
        switch (c[0]) {
            case 0: return x.gate(c[1], c[2], c[3], c[4], c[5]);
            case 1: return x.dropGate(c[1]);
            case 2: return x.register(c[1], c[2], c[3], c[4]);
            case 3: return x.output(c[1], c[2]);
            case 4: return x.copy(c[1]);
            case 5: return x.circuitOf(c[1], c[2]);
            case 6: return x.bit(c[1], c[2], c[3], c[4]);
            case 7: return x.behind(c[1], c[2], c[3]);
            case 8: return x.run(c[1], c[2], c[3], c[4]);
            case 9: return x.share(c[1], c[2]);
            case 10: return x.pairOf(c[1], c[2]);
            case 11: return x.pairs();
            case 12: return x.apart(c[1]);
            case 13: return x.late();
            case 14: return x.same(c[1]);
            case 15: return x.kinds(c[1]);
            case 16: return x.count(c[1]);
            case 17: return x.undo();
            case 18: return x.type(c[1]);
            case 19: return x.clearText();
            case 20: return x.fault(c[1]);
            default: return x.read(c[1]);
        }
    }

    static String told(int... call) {
        StringBuilder said = new StringBuilder(NAMES[call[0]]).append('(');
        for (int i = 1; i < call.length; i++) {
            said.append(i == 1 ? "" : ", ").append(call[i]);
        }
        return said.append(')').toString();
    }

    // ---- objects

    static void typeAll(TickCircuits x, String text) {
        for (int i = 0; i < text.length(); i++) {
            x.type(text.charAt(i));
        }
    }

    /** Both circuits made from texts, which are taken away again. */
    static TickCircuits reading(String zero, String one) {
        TickCircuits x = new TickCircuits();
        typeAll(x, zero);
        due("read(0) of " + zero, x.read(0) >= 0);
        x.clearText();
        typeAll(x, one);
        due("read(1) of " + one, x.read(1) >= 0);
        x.clearText();
        return x;
    }

    /** A new object with a text. */
    static TickCircuits typed(String text) {
        TickCircuits x = new TickCircuits();
        typeAll(x, text);
        return x;
    }

    /** A new object with a number of gates in a circuit: and of both inputs. */
    static TickCircuits withGates(int circuit, int gates) {
        TickCircuits x = new TickCircuits();
        for (int gate = 0; gate < gates; gate++) {
            x.gate(circuit, gate, 0, 0, 1);
        }
        return x;
    }
}
