import java.util.Arrays;

/** For each promise of DOC.md: ordinary inputs, the edges that it names, and wrong inputs. */
public final class PromiseTests extends Checks {
    private static final int[] WRONG_NUMBERS = {Integer.MIN_VALUE, -1000001, -1, 1000001, Integer.MAX_VALUE};

    public static void main(String[] args) {
        constants();
        newObject();
        gate();
        dropGate();
        register();
        output();
        copy();
        circuitOfNumbers();
        circuitOfStates();
        circuitOfAlikeStates();
        circuitOfDependence();
        circuitOfGates();
        bit();
        behind();
        run();
        share();
        pairOf();
        pairs();
        longWay();
        apart();
        late();
        same();
        kinds();
        count();
        undo();
        undoOfEach();
        undoBehindDropped();
        type();
        clearText();
        faultForm();
        faultReasons();
        read();
        errorsChangeNothing();
        questionsChangeNothing();
        finish();
    }

    // ---- what the tests share

    /** All that can be seen of an object without changing it. */
    private static int[] seen(TickCircuits x) {
        int[] all = new int[120];
        int n = 0;
        for (int circuit = 0; circuit < 2; circuit++) {
            for (int what = 0; what <= 6; what++) {
                all[n++] = x.circuitOf(circuit, what);
            }
            for (int g = 0; g < 8; g++) {
                all[n++] = x.circuitOf(circuit, 10 + g);
                all[n++] = x.circuitOf(circuit, 20 + g);
                all[n++] = x.circuitOf(circuit, 30 + g);
            }
            for (int state = 0; state < 16; state++) {
                all[n++] = x.behind(circuit, state, 2);
            }
        }
        for (int what = 0; what < 4; what++) {
            all[n++] = x.count(what);
        }
        all[n++] = x.fault(0);
        all[n++] = x.fault(1);
        all[n++] = x.apart(-1);
        all[n++] = x.late();
        all[n++] = x.pairs();
        return all;
    }

    // ---- promise 1 and the constants

    private static void constants() {
        due("INVALID_ARGUMENT", TickCircuits.INVALID_ARGUMENT, INVALID);
        due("NOT_POSSIBLE", TickCircuits.NOT_POSSIBLE, NOT_POSSIBLE);
        due("LIMIT_REACHED", TickCircuits.LIMIT_REACHED, LIMIT);
        due("NOT_FOUND", TickCircuits.NOT_FOUND, NOT_FOUND);
    }

    private static void newObject() {
        TickCircuits x = new TickCircuits();
        for (int circuit = 0; circuit < 2; circuit++) {
            due("new: gates", x.circuitOf(circuit, 0), 0);
            due("new: output wire", x.circuitOf(circuit, 1), 14);
            due("new: first state", x.circuitOf(circuit, 2), 0);
            due("new: states", x.circuitOf(circuit, 3), 1);
            due("new: steady registers", x.circuitOf(circuit, 4), 15);
            due("new: classes", x.circuitOf(circuit, 5), 1);
            due("new: dependence", x.circuitOf(circuit, 6), 0);
            for (int register = 0; register < 4; register++) {
                due("new: register", x.register(circuit, register, 14, 0), 28);
            }
        }
        x = new TickCircuits();
        due("new: pairs", x.pairs(), 1);
        due("new: count(0)", x.count(0), 0);
        due("new: count(1)", x.count(1), 1);
        due("new: count(2)", x.count(2), 0);
        due("new: count(3)", x.count(3), 0);
        due("new: undo", x.undo(), NOT_POSSIBLE);
    }

    // ---- promises 2 to 6

    private static void gate() {
        TickCircuits x = new TickCircuits();
        for (int g = 0; g < 8; g++) {
            due("a gate ahead of the next one", x.gate(0, g + 1, 0, 0, 0), INVALID);
            due("its own wire", x.gate(0, g, 0, 6 + g, 0), g == 8 ? 0 : INVALID);
            due("its own wire, second", x.gate(0, g, 4, 0, 6 + g), INVALID);
            due("gate " + g, x.gate(0, g, g % 6, 5 + g, g % 2 == 0 ? 14 : 15), g + 1);
        }
        due("a ninth gate", x.gate(0, 8, 0, 0, 0), LIMIT);
        due("a ninth gate with all wires below", x.gate(0, 8, 5, 13, 13), LIMIT);
        due("a ninth gate of no kind", x.gate(0, 8, 6, 0, 0), INVALID);
        due("a ninth gate with no wire", x.gate(0, 8, 0, 16, 0), INVALID);
        due("a tenth gate", x.gate(0, 9, 0, 0, 0), INVALID);
        due("change in the middle", x.gate(0, 3, 2, 8, 15), 8);
        due("a wire above", x.gate(0, 3, 2, 9, 15), INVALID);
        due("its kind", x.circuitOf(0, 13), 2);
        due("its first wire", x.circuitOf(0, 23), 8);
        due("its second wire", x.circuitOf(0, 33), 15);
        due("the other circuit", x.circuitOf(1, 0), 0);
        for (int number : WRONG_NUMBERS) {
            due("gate, circuit " + number, x.gate(number, 0, 0, 0, 0), INVALID);
            due("gate, gate " + number, x.gate(0, number, 0, 0, 0), INVALID);
            due("gate, kind " + number, x.gate(0, 0, number, 0, 0), INVALID);
            due("gate, first " + number, x.gate(0, 0, 0, number, 0), INVALID);
            due("gate, second " + number, x.gate(0, 0, 0, 0, number), INVALID);
        }
    }

    private static void dropGate() {
        TickCircuits x = new TickCircuits();
        due("dropGate of none", x.dropGate(0), NOT_POSSIBLE);
        due("dropGate(2)", x.dropGate(2), INVALID);
        due("dropGate(-1)", x.dropGate(-1), INVALID);
        x.gate(1, 0, 5, 14, 14);
        x.gate(1, 1, 4, 6, 6);
        x.output(1, 7);
        due("the gate's bit", x.bit(1, 0, 0, 7), 1);
        due("dropGate(1)", x.dropGate(1), 1);
        due("a wire of no gate", x.bit(1, 0, 0, 7), 0);
        due("the output wire stays", x.circuitOf(1, 1), 7);
        due("dropGate(1)", x.dropGate(1), 0);
        due("dropGate(1)", x.dropGate(1), NOT_POSSIBLE);
        due("dropped gate", x.circuitOf(1, 10), NOT_FOUND);
    }

    private static void register() {
        TickCircuits x = new TickCircuits();
        for (int r = 0; r < 4; r++) {
            due("register", x.register(1, r, 15 - r, r % 2), 28);
            due("register", x.register(1, r, r, 1), 2 * (15 - r) + r % 2);
            due("register", x.register(1, r, 15, 0), 2 * r + 1);
            due("register", x.register(1, r, 0, 1), 30);
        }
        due("first state", x.circuitOf(1, 2), 15);
        due("the other circuit", x.circuitOf(0, 2), 0);
        for (int number : WRONG_NUMBERS) {
            due("register, circuit " + number, x.register(number, 0, 0, 0), INVALID);
            due("register, register " + number, x.register(0, number, 0, 0), INVALID);
            due("register, next " + number, x.register(0, 0, number, 0), INVALID);
            due("register, first " + number, x.register(0, 0, 0, number), INVALID);
        }
        due("register 4", x.register(0, 4, 0, 0), INVALID);
        due("wire 16", x.register(0, 0, 16, 0), INVALID);
        due("first 2", x.register(0, 0, 0, 2), INVALID);
    }

    private static void output() {
        TickCircuits x = new TickCircuits();
        due("output", x.output(0, 0), 14);
        due("output", x.output(0, 15), 0);
        due("output", x.output(0, 13), 15);
        due("output of the other", x.output(1, 1), 14);
        due("output wire", x.circuitOf(0, 1), 13);
        for (int number : WRONG_NUMBERS) {
            due("output, circuit " + number, x.output(number, 0), INVALID);
            due("output, wire " + number, x.output(0, number), INVALID);
        }
        due("output 16", x.output(0, 16), INVALID);
        due("circuit 2", x.output(2, 0), INVALID);
    }

    private static void copy() {
        TickCircuits x = reading("001;16e;r070;r1f1;o7;", "5ee;o3;");
        due("copy(0)", x.copy(0), 2);
        for (int what = 0; what < 40; what++) {
            due("copied " + what, x.circuitOf(1, what), x.circuitOf(0, what));
        }
        due("copied register 0", x.register(1, 0, 0, 0), 14);
        due("copied register 1", x.register(1, 1, 0, 0), 31);
        due("the original stays", x.circuitOf(0, 2), 2);
        x.gate(1, 0, 2, 0, 1);
        due("no shared gate", x.circuitOf(0, 10), 0);
        x = reading("001;16e;r0e1;o7;", "5ee;o3;");
        due("copy(1)", x.copy(1), 1);
        due("copied gate", x.circuitOf(0, 10), 5);
        due("gate that is gone", x.circuitOf(0, 11), NOT_FOUND);
        due("copied output", x.circuitOf(0, 1), 3);
        due("copied first bits", x.circuitOf(0, 2), 0);
        due("copied next wire", x.register(0, 0, 0, 0), 28);
        due("copy(2)", x.copy(2), INVALID);
        due("copy(-1)", x.copy(-1), INVALID);
    }

    // ---- promise 7

    private static void circuitOfNumbers() {
        TickCircuits x = reading("001;16e;r0e1;r3e1;o7;", "o3;");
        due("gates", x.circuitOf(0, 0), 2);
        due("output wire", x.circuitOf(0, 1), 7);
        due("first state", x.circuitOf(0, 2), 9);
        int[] none = {Integer.MIN_VALUE, -1, 7, 8, 9, 18, 19, 28, 29, 38, 39, 40, 47, 110, Integer.MAX_VALUE};
        for (int what : none) {
            due("circuitOf(0, " + what + ")", x.circuitOf(0, what), INVALID);
        }
        due("circuit -1", x.circuitOf(-1, 0), INVALID);
        due("circuit 2", x.circuitOf(2, 0), INVALID);
        due("circuit 2, no gate", x.circuitOf(2, 15), INVALID);
    }

    private static void circuitOfStates() {
        TickCircuits x = reading(COUNTER + "o5;", "r031;r121;r2f1;");
        due("counter: states", x.circuitOf(0, 3), 65535);
        due("counter: steady", x.circuitOf(0, 4), 0);
        due("counter: classes", x.circuitOf(0, 5), 16);
        due("both bits 1: states", x.circuitOf(1, 3), 1 << 7);
        due("both bits 1: steady", x.circuitOf(1, 4), 15);
        due("swap", x.register(1, 0, 3, 0), 7);
        due("swap: states", x.circuitOf(1, 3), 1 << 6 | 1 << 5);
        due("swap: steady", x.circuitOf(1, 4), 12);
        due("one way", x.register(1, 3, 15, 0), 28);
        due("one way: states", x.circuitOf(1, 3), 1 << 6 | 1 << 13 | 1 << 14);
        due("one way: steady", x.circuitOf(1, 4), 4);
    }

    private static void circuitOfAlikeStates() {
        // a chain of registers behind the input 0: the output tells none, one, or all of them
        TickCircuits x = reading("r000;r120;r230;r340;o0;", "r000;r120;r230;r340;o5;");
        due("an input as output", x.circuitOf(0, 5), 1);
        due("the end of the chain", x.circuitOf(1, 5), 16);
        x.output(1, 4);
        due("the third of the chain", x.circuitOf(1, 5), 8);
        x.output(1, 2);
        due("the first of the chain", x.circuitOf(1, 5), 2);
        // told apart by the input 1 alone, and only in the same tick
        x = reading("021;r000;o6;", "r000;r1f1;");
        due("told by an input", x.circuitOf(0, 5), 2);
        due("states without an output", x.circuitOf(1, 5), 1);
        // two of three states are told apart through the next state by one of the inputs 0 to 3 alone
        String[] ways = {"101;56e;", "51e;060;", "50e;061;", "001;46e;"};
        for (int inputs = 0; inputs < 4; inputs++) {
            x = reading(ways[inputs] + "027;r000;r180;o3;", "");
            due("told by inputs " + inputs + ": classes", x.circuitOf(0, 5), 3);
        }
        // states that are not come to are no classes
        x = reading("r021;o2;", "r021;r131;o2;");
        due("one state", x.circuitOf(0, 5), 1);
        due("one state", x.circuitOf(1, 5), 1);
        // a counter that tells its last state alone: it takes 15 ticks to tell the first two apart
        x = reading(FREE_COUNTER + "oc;", "");
        due("free counter: states", x.circuitOf(0, 3), 65535);
        due("free counter: classes", x.circuitOf(0, 5), 16);
        x.output(0, 8);
        due("free counter that tells each fourth state: classes", x.circuitOf(0, 5), 4);
    }

    private static void circuitOfDependence() {
        TickCircuits x = reading("001;101;267;486;57f;3a9;2aa;o8;", "r060;501;o2;");
        due("dependence of 2", x.circuitOf(0, 6), 7);
        x.output(0, 9);
        due("dependence of 4, the first wire alone", x.circuitOf(0, 6), 15);
        x.output(0, 10);
        due("dependence of 5, the first wire alone", x.circuitOf(0, 6), 18);
        x.output(0, 11);
        due("dependence of all", x.circuitOf(0, 6), 63);
        x.output(0, 12);
        due("dependence of 2 on one gate", x.circuitOf(0, 6), 64 | 18);
        TickCircuits y = reading("001;001;467;577;o8;", "001;001;576;o8;");
        due("dependence of 4, not the second wire", y.circuitOf(0, 6), 5);
        due("dependence of 5, not the second wire", y.circuitOf(1, 6), 6);
        y.output(0, 9);
        due("dependence of 5", y.circuitOf(0, 6), 10);
        x.output(0, 6);
        due("dependence on itself", x.circuitOf(0, 6), 1);
        x.output(0, 13);
        due("a gate that there is not", x.circuitOf(0, 6), 0);
        x.output(0, 15);
        due("a constant", x.circuitOf(0, 6), 0);
        x.output(0, 1);
        due("an input", x.circuitOf(0, 6), 0);
        due("not through registers", x.circuitOf(1, 6), 0);
        x.output(1, 6);
        due("a gate alone", x.circuitOf(1, 6), 1);
        x.dropGate(1);
        due("a dropped gate", x.circuitOf(1, 6), 0);
    }

    private static void circuitOfGates() {
        TickCircuits x = new TickCircuits();
        for (int g = 0; g < 8; g++) {
            due("no gate yet", x.circuitOf(1, 10 + g), NOT_FOUND);
            due("no gate yet", x.circuitOf(1, 20 + g), NOT_FOUND);
            due("no gate yet", x.circuitOf(1, 30 + g), NOT_FOUND);
            x.gate(1, g, g % 6, g, 15 - g % 2);
            due("kind", x.circuitOf(1, 10 + g), g % 6);
            due("first wire", x.circuitOf(1, 20 + g), g);
            due("second wire", x.circuitOf(1, 30 + g), 15 - g % 2);
        }
    }

    // ---- promises 8 to 11

    private static void bit() {
        TickCircuits x = reading("001;101;201;301;401;501;", "22f;56e;");
        // for the inputs 0 to 3, from the kind 5 down to the kind 0
        int[] kindBits = {0b101000, 0b011110, 0b101110, 0b010011};
        for (int inputs = 0; inputs < 4; inputs++) {
            int first = inputs & 1;
            int second = inputs >> 1;
            for (int g = 0; g < 6; g++) {
                due("kind " + g + " of inputs " + inputs, x.bit(0, 9, inputs, 6 + g), kindBits[inputs] >> g & 1);
            }
            due("input 0", x.bit(0, 0, inputs, 0), first);
            due("input 1", x.bit(0, 0, inputs, 1), second);
            due("no gate", x.bit(0, 15, inputs, 12), 0);
            due("no gate", x.bit(0, 15, inputs, 13), 0);
            due("14", x.bit(0, 15, inputs, 14), 0);
            due("15", x.bit(0, 0, inputs, 15), 1);
        }
        for (int state = 0; state < 16; state++) {
            for (int r = 0; r < 4; r++) {
                due("register", x.bit(1, state, 0, 2 + r), state >> r & 1);
            }
            due("not the register 0", x.bit(1, state, 0, 6), 1 - (state & 1));
            due("a gate of a gate", x.bit(1, state, 0, 7), state & 1);
        }
        for (int number : WRONG_NUMBERS) {
            due("bit, circuit " + number, x.bit(number, 0, 0, 0), INVALID);
            due("bit, state " + number, x.bit(0, number, 0, 0), INVALID);
            due("bit, inputs " + number, x.bit(0, 0, number, 0), INVALID);
            due("bit, wire " + number, x.bit(0, 0, 0, number), INVALID);
        }
        due("bit, circuit 2", x.bit(2, 0, 0, 0), INVALID);
        due("bit, state 16", x.bit(0, 16, 0, 0), INVALID);
        due("bit, inputs 4", x.bit(0, 0, 4, 0), INVALID);
        due("bit, wire 16", x.bit(0, 0, 0, 16), INVALID);
    }

    private static void behind() {
        // registers take their next wires at once: 0 and 1 change places
        TickCircuits x = reading("r030;r120;r210;r3f0;", "201;r060;r1d0;r2e1;r301;");
        for (int state = 0; state < 16; state++) {
            for (int inputs = 0; inputs < 4; inputs++) {
                int swapped = state >> 1 & 1 | (state & 1) << 1;
                due("swap", x.behind(0, state, inputs), swapped | inputs >> 1 << 2 | 8);
                int second = (inputs & 1 ^ inputs >> 1) | (inputs & 1) << 3;
                due("gates", x.behind(1, state, inputs), second);
            }
        }
        for (int number : WRONG_NUMBERS) {
            due("behind, circuit " + number, x.behind(number, 0, 0), INVALID);
            due("behind, state " + number, x.behind(0, number, 0), INVALID);
            due("behind, inputs " + number, x.behind(0, 0, number), INVALID);
        }
        due("behind, circuit 2", x.behind(2, 0, 0), INVALID);
        due("behind, state 16", x.behind(0, 16, 0), INVALID);
        due("behind, inputs 4", x.behind(0, 0, 4), INVALID);
    }

    private static void run() {
        TickCircuits x = reading("r000;r121;r230;r340;o0;", "o1;r0f0;");
        due("no tick", x.run(0, -1, 0, 0), 2);
        due("no output", x.run(0, -1, 0, 1), 0);
        due("a tick", x.run(0, 1, 1, 0), 5);
        due("a tick without the input", x.run(0, 2, 1, 0), 4);
        int row = 0b11_00_10_01_11_01_00_10_11_11_00_01_00_10_01_11;
        int outputsZero = 0;
        int outputsOne = 0;
        for (int tick = 0; tick < 16; tick++) {
            outputsZero |= (row >>> 2 * tick & 1) << tick;
            outputsOne |= (row >>> 2 * tick + 1 & 1) << tick;
        }
        due("16 ticks", x.run(0, row, 16, 1), outputsZero);
        due("16 ticks", x.run(1, row, 16, 1), outputsOne);
        due("16 ticks of ones", x.run(0, -1, 16, 1), 65535);
        due("16 ticks, the state", x.run(0, row, 16, 0), outputsZero >> 15 & 1 | outputsZero >> 13 & 2
                | outputsZero >> 11 & 4 | outputsZero >> 9 & 8);
        due("bits beyond do not matter", x.run(0, row | -1 << 6, 3, 1), outputsZero & 7);
        due("bits beyond do not matter", x.run(1, row | -1 << 6, 3, 1), outputsOne & 7);
        for (int number : WRONG_NUMBERS) {
            due("run, circuit " + number, x.run(number, 0, 0, 0), INVALID);
            due("run, ticks " + number, x.run(0, 0, number, 0), INVALID);
            due("run, what " + number, x.run(0, 0, 0, number), INVALID);
            due("run, row " + number, x.run(0, number, 0, 0), 2);
        }
        due("17 ticks", x.run(0, 0, 17, 0), INVALID);
        due("what 2", x.run(0, 0, 0, 2), INVALID);
        due("circuit 2", x.run(2, 0, 0, 0), INVALID);
    }

    /** The output of the circuit 0 is 1 in the states below a number. */
    private static TickCircuits below(int number) {
        TickCircuits x = new TickCircuits();
        int lower = 14;
        for (int r = 0; r < 4; r++) {
            x.gate(0, 2 * r, 5, 2 + r, 2 + r);
            x.gate(0, 2 * r + 1, number >> r & 1, 6 + 2 * r, lower);
            lower = 7 + 2 * r;
        }
        x.output(0, number == 16 ? 15 : lower);
        return x;
    }

    private static void share() {
        for (int states = 0; states <= 16; states++) {
            due("share of " + states, below(states).share(0, 1), Float.floatToIntBits((float) states / 16));
        }
        TickCircuits x = reading("001;o6;", "");
        due("inputs 3", x.share(0, 3), Float.floatToIntBits(1f));
        due("inputs 2", x.share(0, 2), 0);
        for (int number : WRONG_NUMBERS) {
            due("share, circuit " + number, x.share(number, 0), INVALID);
            due("share, inputs " + number, x.share(0, number), INVALID);
        }
        due("share, circuit 2", x.share(2, 0), INVALID);
        due("share, inputs 4", x.share(0, 4), INVALID);
    }

    // ---- promises 12 to 14

    private static void pairOf() {
        TickCircuits x = reading("r001;r111;o2;", "r010;r100;o3;");
        // the first pair (3, 0), then by the inputs 0 to 3
        int[] zero = {3, 0, 1, 2, 3};
        int[] one = {0, 0, 2, 1, 3};
        for (int pair = 0; pair < 5; pair++) {
            due("state of 0", x.pairOf(pair, 0), zero[pair]);
            due("state of 1", x.pairOf(pair, 1), one[pair]);
            due("ticks", x.pairOf(pair, 2), pair == 0 ? 0 : 1);
            due("its row", x.pairOf(pair, 10), pair == 0 ? NOT_FOUND : pair - 1);
            due("behind its row", x.pairOf(pair, 11), NOT_FOUND);
            due("differing", x.pairOf(pair, 3), pair == 0 ? 15 : 0);
        }
        due("a pair too many", x.pairOf(5, 0), NOT_FOUND);
        due("a pair too many", x.pairOf(5, 265), NOT_FOUND);
        due("far too many", x.pairOf(Integer.MAX_VALUE, 3), NOT_FOUND);
        int[] none = {Integer.MIN_VALUE, -1, 4, 9, 266, Integer.MAX_VALUE};
        for (int what : none) {
            due("pairOf(0, " + what + ")", x.pairOf(0, what), INVALID);
            due("pairOf(9, " + what + ")", x.pairOf(9, what), INVALID);
        }
        due("pair -1", x.pairOf(-1, 0), INVALID);
        due("pair MIN_VALUE", x.pairOf(Integer.MIN_VALUE, 0), INVALID);
        // a pair that is come to by two ticks has the least of their rows
        x = reading("r000;r120;", "r010;r120;");
        due("pairs", x.pairs(), 16);
        due("the last one's first inputs", x.pairOf(15, 10), 3);
        due("the last one's second inputs", x.pairOf(15, 11), 3);
        due("no third ones", x.pairOf(15, 12), NOT_FOUND);
        for (int pair = 5; pair < 16; pair++) {
            int row = x.pairOf(pair, 10) + 4 * x.pairOf(pair, 11);
            due("the row leads to its state of 0", x.run(0, row, 2, 0), x.pairOf(pair, 0));
            due("the row leads to its state of 1", x.run(1, row, 2, 0), x.pairOf(pair, 1));
            due("in order", 4 * x.pairOf(pair - 1, 10) + x.pairOf(pair - 1, 11)
                < 4 * x.pairOf(pair, 10) + x.pairOf(pair, 11) || pair == 5 ? 1 : 0, 1);
        }
        // differing inputs one by one
        x = reading("o0;", "o1;");
        due("differing by both", x.pairOf(0, 3), 6);
        x = reading("001;o6;", "301;o6;");
        due("differing always", x.pairOf(0, 3), 15);
        x = reading("001;o6;", "101;o6;");
        due("differing by one", x.pairOf(0, 3), 6);
        x = reading("001;o6;", "");
        due("differing by the last", x.pairOf(0, 3), 8);
        x = reading("101;o6;", "of;");
        due("differing by the first", x.pairOf(0, 3), 1);
    }

    private static void pairs() {
        TickCircuits x = new TickCircuits();
        due("pairs", x.pairs(), 1);
        x = reading("r000;r120;r230;r340;", "r010;r120;r230;r340;");
        due("all pairs", x.pairs(), 256);
        due("the last one's ticks", x.pairOf(255, 2), 4);
        due("the last one's row", x.pairOf(255, 13), 3);
        due("the last one's row's end", x.pairOf(255, 14), NOT_FOUND);
        due("behind the last one", x.pairOf(256, 2), NOT_FOUND);
        x = reading("r020;", "r0f0;");
        due("two pairs", x.pairs(), 2);
        x.register(1, 0, 15, 1);
        due("one pair", x.pairs(), 1);
    }

    /** Counters of 16 and of 15 states without inputs: 240 pairs in one long way. */
    private static void longWay() {
        TickCircuits x = reading(FREE_COUNTER, FIFTEEN);
        due("a way of 15 states", Integer.bitCount(x.circuitOf(1, 3)), 15);
        due("the long way", x.pairs(), 240);
        due("its last pair", x.pairOf(239, 2), 239);
        for (int pair = 0; pair < 240; pair += 17) {
            due("ticks on the way", x.pairOf(pair, 2), pair);
            due("its state of 0", x.pairOf(pair, 0), pair % 16);
            due("its last inputs", x.pairOf(pair, 9 + pair), pair == 0 ? INVALID : 0);
            due("beyond its row", x.pairOf(pair, 10 + pair), NOT_FOUND);
        }
        due("behind the last one", x.pairOf(240, 0), NOT_FOUND);
        due("never apart", x.apart(-1), NOT_FOUND);
        x.output(0, 12);
        due("apart in the last state of the counter", x.apart(-1), 16);
        due("its last inputs", x.apart(15), 0);
        due("no more", x.apart(16), NOT_FOUND);
    }

    private static void apart() {
        TickCircuits x = new TickCircuits();
        due("never apart", x.apart(-1), NOT_FOUND);
        due("never apart", x.apart(0), NOT_FOUND);
        due("below -1", x.apart(-2), INVALID);
        due("below -1", x.apart(Integer.MIN_VALUE), INVALID);
        // at once, by the input 1 alone
        x = reading("o0;", "001;o6;");
        due("at once", x.apart(-1), 1);
        due("its inputs", x.apart(0), 1);
        due("no second one", x.apart(1), NOT_FOUND);
        due("far behind", x.apart(Integer.MAX_VALUE), NOT_FOUND);
        x = reading("o1;", "001;o6;");
        due("its inputs", x.apart(0), 2);
        x = reading("001;o6;", "");
        due("its inputs", x.apart(0), 3);
        // a chain of registers: 1 has to come through, then the input 1 has to be 1
        x = reading("051;r000;r120;r230;r340;o6;", "");
        due("through the chain", x.apart(-1), 5);
        due("the first inputs", x.apart(0), 1);
        due("the second inputs", x.apart(1), 0);
        due("the third inputs", x.apart(2), 0);
        due("the fourth inputs", x.apart(3), 0);
        due("the last inputs", x.apart(4), 2);
        due("no sixth one", x.apart(5), NOT_FOUND);
        // a difference that heals: only the shortest row counts
        x = reading("r000;o2;", "r001;o2;");
        due("differs at first", x.apart(-1), 1);
        due("differs at first", x.apart(0), 0);
    }

    // ---- promises 15 to 17

    private static void late() {
        due("both the same", new TickCircuits().late(), 0);
        for (int ticks = 0; ticks <= 4; ticks++) {
            TickCircuits x = reading("o1;", "r010;r120;r230;r340;o" + (ticks == 0 ? "1;" : 1 + ticks + ";"));
            due("late by " + ticks, x.late(), ticks);
            // what the late circuit answers ahead of the ticks does not matter
            x.register(1, 0, 1, 1);
            x.register(1, 1, 2, 1);
            due("late by " + ticks + ", other first bits", x.late(), ticks);
            // but an answer that no row of the circuit 0 gives does
            x.register(1, 2, 3, 0);
            x.output(0, 15);
            due("a constant", x.late(), NOT_FOUND);
        }
        // five ticks are too many: the circuit 0 is ahead by the input, the circuit 1 behind four registers
        TickCircuits x = reading("r000;o2;", "r000;r120;r230;r340;o5;");
        due("late by 3", x.late(), 3);
        x.register(0, 0, 0, 1);
        due("the first bit of 0 is told late", x.late(), NOT_FOUND);
        // the least of several: a constant is late by each
        x = reading("of;", "of;");
        due("constants", x.late(), 0);
        x = reading("of;", "r0f0;o2;");
        due("a constant from the second tick on", x.late(), 1);
        x = reading("of;", "r0f0;r120;r230;r340;o5;");
        due("a constant from the fifth tick on", x.late(), 4);
        // a bit that changes by turns is late by 1 if it begins the other way, and by 2 else
        x = reading("52e;r060;o2;", "52e;r061;o2;");
        due("by turns, inverted", x.late(), 1);
        x = reading("r000;r120;o3;", "o0;");
        due("circuit 1 is ahead", x.late(), NOT_FOUND);
    }

    private static void same() {
        TickCircuits x = reading("r000;r110;r201;r3f1;", "r010;r100;r201;r3f0;");
        due("register 0", x.same(0), 2);
        due("register 1", x.same(1), 1);
        due("register 2", x.same(2), 4);
        due("register 3", x.same(3), 0);
        x.register(1, 3, 15, 1);
        due("register 3", x.same(3), 8);
        due("register 2", x.same(2), 4);
        due("all of a new object", new TickCircuits().same(2), 15);
        x = reading("r0f1;", "r0e1;r1f1;r2f1;");
        due("ones", x.same(0), 6);
        due("zeros", x.same(3), 8);
        for (int number : WRONG_NUMBERS) {
            due("same(" + number + ")", x.same(number), INVALID);
        }
        due("same(4)", x.same(4), INVALID);
    }

    private static void kinds() {
        TickCircuits x = reading("001;o6;", "001;o6;");
        due("and alone", x.kinds(0), 1);
        due("no gate 1", x.kinds(1), NOT_FOUND);
        due("no gate 7", x.kinds(7), NOT_FOUND);
        due("gate 8", x.kinds(8), INVALID);
        due("gate -1", x.kinds(-1), INVALID);
        x = reading("001;o6;", "101;o6;");
        due("its own one apart", x.kinds(0), 2);
        due("the kind stays", x.circuitOf(0, 10), 0);
        x = reading("000;o6;", "o0;");
        due("both wires the same", x.kinds(0), 1 | 2 | 16);
        x = reading("001;o0;", "o0;");
        due("a gate without use", x.kinds(0), 63);
        x = reading("001;o0;", "o1;");
        due("a gate without use, apart", x.kinds(0), 0);
        x = reading("20f;o6;", "50e;o6;");
        due("inverters", x.kinds(0), 4 | 8 | 32);
        x = reading("20e;o6;", "o0;");
        due("with 0", x.kinds(0), 2 | 4 | 16);
        x = reading("402;101;o7;", "40e;101;o7;");
        due("its own wires stay, in the circuit 0", x.kinds(1), 2);
        x = reading("001;o6;", "222;o6;r000;");
        due("with its wires, not those of the circuit 1", x.kinds(0), 0);
        x = reading("023;o6;", "123;r000;o6;");
        due("registers that stay 0", x.kinds(0), 0);
        x = reading("023;o6;", "0e3;o6;");
        due("registers that stay 0", x.kinds(0), 1 | 2 | 4 | 16);
        // seen through a register only, two ticks behind
        x = reading("001;46e;r070;r120;o3;", "301;r060;r120;o3;");
        due("through registers", x.kinds(0), 8);
        due("the history stays", x.count(2), 2);
    }

    // ---- promises 18 and 19

    private static void count() {
        TickCircuits x = reading("001;101;o6;", "001;o6;");
        due("gates of both", x.count(0), 3);
        due("never apart", x.count(1), 1);
        due("history", x.count(2), 2);
        due("text", x.count(3), 0);
        x.type('o');
        due("text", x.count(3), 1);
        x.output(1, 0);
        due("apart", x.count(1), 0);
        due("history", x.count(2), 3);
        for (int number : WRONG_NUMBERS) {
            due("count(" + number + ")", x.count(number), INVALID);
        }
        due("count(4)", x.count(4), INVALID);
    }

    private static void undo() {
        TickCircuits x = new TickCircuits();
        due("nothing to undo", x.undo(), NOT_POSSIBLE);
        x.gate(0, 0, 1, 2, 3);
        x.register(0, 1, 6, 1);
        x.output(1, 4);
        x.copy(0);
        due("history", x.count(2), 4);
        due("undo copy", x.undo(), 3);
        due("no gate", x.circuitOf(1, 0), 0);
        due("output wire", x.circuitOf(1, 1), 4);
        due("undo output", x.undo(), 2);
        due("output wire", x.circuitOf(1, 1), 14);
        due("first state", x.circuitOf(0, 2), 2);
        due("undo register", x.undo(), 1);
        due("first state", x.circuitOf(0, 2), 0);
        due("undo gate", x.undo(), 0);
        due("no gate", x.circuitOf(0, 0), 0);
        due("nothing to undo", x.undo(), NOT_POSSIBLE);
        for (int wire = 0; wire < 6; wire++) {
            x.output(0, wire);
        }
        due("at most 4", x.count(2), 4);
        for (int left = 3; left >= 0; left--) {
            due("undo", x.undo(), left);
            due("output wire", x.circuitOf(0, 1), left + 1);
        }
        due("nothing to undo", x.undo(), NOT_POSSIBLE);
        // a change that changes nothing is recorded, too; the text is not
        x.gate(0, 0, 3, 1, 0);
        x.gate(0, 0, 3, 1, 0);
        x.dropGate(0);
        typeAll(x, "o5;");
        x.read(1);
        due("history", x.count(2), 4);
        due("undo read", x.undo(), 3);
        due("the text stays", x.count(3), 3);
        due("output wire", x.circuitOf(1, 1), 14);
        due("undo dropGate", x.undo(), 2);
        due("its kind", x.circuitOf(0, 10), 3);
        due("its first wire", x.circuitOf(0, 20), 1);
        due("undo gate", x.undo(), 1);
        due("a gate", x.circuitOf(0, 0), 1);
        due("undo gate", x.undo(), 0);
        due("no gate", x.circuitOf(0, 0), 0);
    }

    /** After each kind of change undo brings back all that was in both circuits. */
    private static void undoOfEach() {
        for (int circuit = 0; circuit < 2; circuit++) {
            for (int change = 0; change < 6; change++) {
                TickCircuits x = reading("001;166;r031;r2f0;o7;", "2ef;516;r170;r3d1;o1;");
                x.output(0, 5);
                typeAll(x, "r0f1;o2;");
                int[] before = seen(x);
                switch (change) {
                    case 0: x.gate(circuit, 1, 3, 4, 5); break;
                    case 1: x.dropGate(circuit); break;
                    case 2: x.register(circuit, 2, 1, 1); break;
                    case 3: x.output(circuit, 4); break;
                    case 4: x.copy(circuit); break;
                    default: x.read(circuit); break;
                }
                due("a change", Arrays.equals(before, seen(x)) ? 0 : 1, 1);
                due("its history", x.count(2), 4);
                due("undo of change " + change, x.undo(), 3);
                due("all as before change " + change, Arrays.equals(before, seen(x)) ? 1 : 0, 1);
            }
        }
    }

    /** The history drops its oldest states whole: gates, wires and registers of both circuits. */
    private static void undoBehindDropped() {
        for (int circuit = 0; circuit < 2; circuit++) {
            TickCircuits x = new TickCircuits();
            for (int g = 0; g < 8; g++) {
                x.gate(circuit, g, g % 6, g, 15);
            }
            for (int gates = 7; gates >= 4; gates--) {
                due("undo", x.undo(), gates - 4);
                due("gates", x.circuitOf(circuit, 0), gates);
                due("the last one's kind", x.circuitOf(circuit, 9 + gates), (gates - 1) % 6);
                due("the dropped one's kind", x.circuitOf(circuit, 10 + gates), NOT_FOUND);
            }
            for (int i = 0; i < 8; i++) {
                x.register(circuit, i % 4, i, i / 4);
            }
            for (int i = 7; i >= 4; i--) {
                x.undo();
                due("first state", x.circuitOf(circuit, 2), (1 << (i - 4)) - 1);
            }
            x.register(circuit, 3, 3, 0);
            due("next wire and first bit", x.register(circuit, 3, 3, 0), 6);
        }
    }

    // ---- promises 20 to 23

    private static void type() {
        TickCircuits x = new TickCircuits();
        for (int number : WRONG_NUMBERS) {
            due("type(" + number + ")", x.type(number), INVALID);
        }
        due("type(31)", x.type(31), INVALID);
        due("type(127)", x.type(127), INVALID);
        for (int length = 1; length <= 80; length++) {
            due("type", x.type(length % 2 == 0 ? 32 : 126), length);
        }
        due("type, full", x.type('o'), LIMIT);
        due("type, full and out of range", x.type(127), INVALID);
        due("length", x.count(3), 80);
        due("history", x.count(2), 0);
    }

    private static void clearText() {
        TickCircuits x = new TickCircuits();
        due("empty", x.clearText(), 0);
        typeAll(x, "o5;!");
        due("four", x.clearText(), 4);
        due("empty", x.clearText(), 0);
        due("no fault", x.fault(0), NOT_FOUND);
        due("history", x.count(2), 0);
    }

    private static void faultIs(String text, int position, int reason) {
        TickCircuits x = new TickCircuits();
        typeAll(x, text);
        due("fault(0) of " + text, x.fault(0), position);
        due("fault(1) of " + text, x.fault(1), reason);
        due("fault(2) of " + text, x.fault(2), INVALID);
        due("fault(-1) of " + text, x.fault(-1), INVALID);
        due("read(0) of " + text, x.read(0) < 0 ? x.read(0) : 0, position == NOT_FOUND ? 0 : NOT_POSSIBLE);
        due("read(2) of " + text, x.read(2), INVALID);
    }

    private static void faultForm() {
        String[] right = {"", "o0;", "of;", "od;", "r000;", "r3f1;", "0ef;", "5fe;", "001;26f;o7;r071;"};
        for (String text : right) {
            faultIs(text, NOT_FOUND, NOT_FOUND);
        }
        String[] wrongForms = {";", " ", "o", "o0", "og;", "oF;", "o;", "o0 ;", "o 0;", "O0;", "o00;", "r", "r0", "r00",
            "r000", "r400;", "ra00;", "r0g0;", "r002;", "r00a;", "r00;", "r0000;", "R000;", "0", "00", "000", "600;",
            "a00;", "0g0;", "00g;", "00A;", "0000;", "00;", "-00;", "/00;", ":00;", "0:0;", "0`0;", "o:;", "o`;", "~",
            "r0/0;", "r/00;", "o/;"};
        for (String text : wrongForms) {
            faultIs(text, 0, 1);
            faultIs("o1;" + text, 3, 1);
            faultIs("001;o6;r150;" + text, 12, 1);
        }
        faultIs("o1;;", 3, 1);
        faultIs("o1; ", 3, 1);
        faultIs("o1;o1", 3, 1);
        faultIs("r000;r000", 5, 1);
        faultIs("066;066", 0, 3);
        faultIs("o1;?;066;", 3, 1);
    }

    private static void faultReasons() {
        String eight = "001;061;071;081;091;0a1;0b1;0c1;";
        faultIs(eight, NOT_FOUND, NOT_FOUND);
        faultIs(eight + "001;", 32, 2);
        faultIs(eight + "ofr;", 32, 1);
        faultIs(eight + "00", 32, 1);
        faultIs(eight + "0dd;", 32, 2);
        faultIs(eight + "od;r0d1;", NOT_FOUND, NOT_FOUND);
        faultIs(eight + "od;r0d1;0dd;", 40, 2);
        // full to its 80 characters
        faultIs(eight + "od;r0d1;r1d1;r2d1;r3d1;".concat("o0;".repeat(8)) + " ", 55, 4);
        faultIs("006;", 0, 3);
        faultIs("060;", 0, 3);
        faultIs("00d;", 0, 3);
        faultIs("407;", 0, 3);
        faultIs("001;067;", 4, 3);
        faultIs("001;076;", 4, 3);
        faultIs("001;066;", NOT_FOUND, NOT_FOUND);
        faultIs("001;0ef;", NOT_FOUND, NOT_FOUND);
        for (int gate = 0; gate < 8; gate++) {
            String ahead = eight.substring(0, 4 * gate);
            String own = Integer.toHexString(6 + gate);
            String below = Integer.toHexString(5 + gate);
            faultIs(ahead + "0" + own + "0;", 4 * gate, 3);
            faultIs(ahead + "00" + own + ";", 4 * gate, 3);
            faultIs(ahead + "0" + below + below + ";", NOT_FOUND, NOT_FOUND);
        }
        faultIs("o1;o2;", 3, 4);
        faultIs("o1;001;o1;", 7, 4);
        faultIs("r000;r100;r200;r300;o0;", NOT_FOUND, NOT_FOUND);
        for (int r = 0; r < 4; r++) {
            faultIs("r000;r100;r200;r300;r" + r + "00;", 20, 4);
        }
        faultIs("r2e0;r2e0;", 5, 4);
        faultIs("r2e0;r2e2;", 5, 1);
    }

    private static void read() {
        TickCircuits x = new TickCircuits();
        x.gate(1, 0, 2, 3, 4);
        x.register(1, 2, 9, 1);
        x.output(1, 8);
        typeAll(x, "5ef;r371;36e;");
        due("read(1)", x.read(1), 2);
        due("kind", x.circuitOf(1, 10), 5);
        due("first wire", x.circuitOf(1, 20), 14);
        due("second wire", x.circuitOf(1, 30), 15);
        due("kind", x.circuitOf(1, 11), 3);
        due("first wire", x.circuitOf(1, 21), 6);
        due("second wire", x.circuitOf(1, 31), 14);
        due("output not told", x.circuitOf(1, 1), 14);
        due("first state", x.circuitOf(1, 2), 8);
        due("the text stays", x.count(3), 13);
        due("the other circuit", x.circuitOf(0, 0), 0);
        due("again", x.read(0), 2);
        due("history", x.count(2), 4);
        due("register not told", x.register(1, 2, 0, 0), 28);
        due("register told", x.register(1, 3, 0, 0), 15);
        x.type('x');
        due("a fault", x.read(0), NOT_POSSIBLE);
        due("a fault, circuit 2", x.read(2), INVALID);
        due("a fault, circuit -1", x.read(-1), INVALID);
        due("unchanged", x.circuitOf(0, 0), 2);
        x.clearText();
        due("the empty text", x.read(0), 0);
        due("its output", x.circuitOf(0, 1), 14);
        due("its first state", x.circuitOf(0, 2), 0);
        // the circuit is the object's own: a later text does not reach it
        typeAll(x, "of;");
        x.fault(0);
        due("not read yet", x.circuitOf(0, 1), 14);
    }

    // ---- errors and questions

    private static void errorsChangeNothing() {
        TickCircuits x = reading("001;16e;r0e1;r3e1;o7;", "2ef;o6;");
        typeAll(x, "zz");
        int[] before = seen(x);
        x.gate(0, 3, 0, 0, 0);
        x.gate(0, 0, 0, 6, 0);
        x.gate(0, 2, 6, 0, 0);
        x.gate(2, 0, 0, 0, 0);
        x.dropGate(2);
        x.register(0, 0, 16, 0);
        x.register(0, 4, 0, 0);
        x.register(0, 0, 0, 2);
        x.output(0, 16);
        x.output(2, 0);
        x.copy(2);
        x.copy(-1);
        x.read(0);
        x.read(2);
        x.type(127);
        x.kinds(5);
        due("errors change nothing", Arrays.equals(before, seen(x)) ? 1 : 0, 1);
        x = new TickCircuits();
        before = seen(x);
        x.dropGate(0);
        x.undo();
        due("errors change nothing", Arrays.equals(before, seen(x)) ? 1 : 0, 1);
    }

    private static void questionsChangeNothing() {
        TickCircuits x = reading("001;16e;r0e1;r3e1;o7;", "2ef;r111;o6;");
        typeAll(x, "o5;");
        int[] before = seen(x);
        for (int gate = 0; gate < 8; gate++) {
            x.kinds(gate);
        }
        for (int register = 0; register < 4; register++) {
            x.same(register);
        }
        x.share(0, 2);
        x.run(1, 12345, 16, 0);
        x.apart(2);
        x.pairOf(1, 10);
        x.fault(0);
        due("questions change nothing", Arrays.equals(before, seen(x)) ? 1 : 0, 1);
    }
}
