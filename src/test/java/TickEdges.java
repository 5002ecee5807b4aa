/** Each sentence of DOC.md that names a boundary case of the ticks: promises 8 to 11. */
public final class TickEdges extends Checks {
    public static void main(String[] args) {
        bitArguments();
        bitOfInputs();
        bitOfRegisters();
        bitOfConstants();
        bitOfNoGate();
        bitOfKinds();
        bitOfLastGate();
        behindArguments();
        behindAtOnce();
        behindEachWire();
        behindNoGate();
        runArguments();
        runAnyRow();
        runNoTick();
        runOneTick();
        runAllTicks();
        runBitsBeyond();
        runFromFirstState();
        shareArguments();
        shareOfAllCounts();
        shareOfAllStates();
        shareOfInputs();
        finish(8, 11);
    }

    // ---- promise 8: bit

    private static void bitArguments() {
        sentence(8, "state: 0 to 15; inputs: 0 to 3; wire: 0 to 15; INVALID_ARGUMENT if an argument is out of range");
        TickCircuits x = new TickCircuits();
        int[][] calls = {{-1, 0, 0, 0}, {2, 0, 0, 0}, {0, -1, 0, 0}, {0, 16, 0, 0}, {0, 0, -1, 0}, {0, 0, 4, 0},
            {0, 0, 0, -1}, {0, 0, 0, 16}};
        for (int[] c : calls) {
            due(told(6, c[0], c[1], c[2], c[3]), x.bit(c[0], c[1], c[2], c[3]), INVALID);
        }
        for (int number : FAR) {
            due("circuit " + number, x.bit(number, 0, 0, 0), INVALID);
            due("state " + number, x.bit(0, number, 0, 0), INVALID);
            due("inputs " + number, x.bit(0, 0, number, 0), INVALID);
            due("wire " + number, x.bit(0, 0, 0, number), INVALID);
        }
        due("bit(0, 0, 0, 0)", x.bit(0, 0, 0, 0), 0);
        due("bit(1, 15, 3, 15)", x.bit(1, 15, 3, 15), 1);
    }

    private static void bitOfInputs() {
        sentence(8, "told as 0 to 3: the bit of the input 0, and 2 times that of the input 1");
        TickCircuits x = new TickCircuits();
        for (int inputs = 0; inputs < 4; inputs++) {
            due("the input 0 of " + inputs, x.bit(0, 0, inputs, 0), inputs % 2);
            due("the input 1 of " + inputs, x.bit(0, 15, inputs, 1), inputs / 2);
            due("the input 0 of " + inputs, x.bit(1, 15, inputs, 0), inputs % 2);
            due("the input 1 of " + inputs, x.bit(1, 0, inputs, 1), inputs / 2);
        }
    }

    private static void bitOfRegisters() {
        sentence(8, "2 to 5 the registers 0 to 3; The state of a circuit is its registers as bits.");
        TickCircuits x = reading("r0f1;r1f1;r2f1;r3f1;", "");
        for (int state = 0; state < 16; state++) {
            for (int r = 0; r < 4; r++) {
                due("the register " + r + " of " + state, x.bit(0, state, 0, 2 + r), state >> r & 1);
                due("the register " + r + " of " + state, x.bit(1, state, 3, 2 + r), state >> r & 1);
            }
        }
    }

    private static void bitOfConstants() {
        sentence(8, "14 is always 0, and 15 is always 1.");
        TickCircuits x = withGates(0, 8);
        for (int state = 0; state < 16; state += 5) {
            for (int inputs = 0; inputs < 4; inputs++) {
                for (int circuit = 0; circuit < 2; circuit++) {
                    due("wire 14", x.bit(circuit, state, inputs, 14), 0);
                    due("wire 15", x.bit(circuit, state, inputs, 15), 1);
                }
            }
        }
    }

    private static void bitOfNoGate() {
        sentence(8, "wires of gates that there are not are 0");
        for (int gates = 0; gates <= 8; gates++) {
            TickCircuits x = new TickCircuits();
            for (int gate = 0; gate < 8; gate++) {
                x.gate(0, gate, 5, 14, 14);
            }
            for (int gate = 7; gate >= gates; gate--) {
                x.dropGate(0);
            }
            for (int wire = 6; wire < 14; wire++) {
                due("wire " + wire + " of " + gates + " gates", x.bit(0, 15, 3, wire), wire < 6 + gates ? 1 : 0);
                due("wire " + wire + " of the other circuit", x.bit(1, 15, 3, wire), 0);
            }
        }
    }

    private static void bitOfKinds() {
        sentence(8, "0 and, 1 or, 2 exclusive or, 3 not and, 4 the first wire, 5 not the first wire");
        // for the kinds 0 to 5: the bits for the inputs 3, 2, 1, 0
        int[] bits = {0b1000, 0b1110, 0b0110, 0b0111, 0b1010, 0b0101};
        for (int kind = 0; kind < 6; kind++) {
            TickCircuits x = new TickCircuits();
            x.gate(0, 0, kind, 0, 1);
            x.gate(1, 0, kind, 1, 0);
            for (int inputs = 0; inputs < 4; inputs++) {
                int swapped = inputs % 2 * 2 + inputs / 2;
                due("kind " + kind + " of " + inputs, x.bit(0, 0, inputs, 6), bits[kind] >> inputs & 1);
                due("kind " + kind + " of " + swapped, x.bit(1, 0, swapped, 6), bits[kind] >> inputs & 1);
            }
        }
    }

    private static void bitOfLastGate() {
        sentence(8, "the gates are worked out from the lowest to the highest");
        TickCircuits x = new TickCircuits();
        for (int gate = 0; gate < 8; gate++) {
            x.gate(1, gate, 5, gate == 0 ? 0 : 5 + gate, 14);
        }
        for (int gate = 0; gate < 8; gate++) {
            due("gate " + gate + " of input 0", x.bit(1, 0, 0, 6 + gate), 1 - gate % 2);
            due("gate " + gate + " of input 1", x.bit(1, 0, 1, 6 + gate), gate % 2);
        }
        x.gate(1, 7, 0, 15, 15);
        due("gate 7 on the constant 1", x.bit(1, 0, 0, 13), 1);
        x.gate(1, 7, 1, 14, 14);
        due("gate 7 on the constant 0", x.bit(1, 0, 0, 13), 0);
    }

    // ---- promise 9: behind

    private static void behindArguments() {
        sentence(9, "state: 0 to 15; inputs: 0 to 3; INVALID_ARGUMENT if an argument is out of range");
        TickCircuits x = new TickCircuits();
        int[][] calls = {{-1, 0, 0}, {2, 0, 0}, {0, -1, 0}, {0, 16, 0}, {0, 0, -1}, {0, 0, 4}};
        for (int[] c : calls) {
            due(told(7, c[0], c[1], c[2]), x.behind(c[0], c[1], c[2]), INVALID);
        }
        for (int number : FAR) {
            due("circuit " + number, x.behind(number, 0, 0), INVALID);
            due("state " + number, x.behind(0, number, 0), INVALID);
            due("inputs " + number, x.behind(0, 0, number), INVALID);
        }
        due("behind(1, 15, 3)", x.behind(1, 15, 3), 0);
    }

    private static void behindAtOnce() {
        sentence(9, "then all registers take the bits of their next wires at once");
        // round about, one way and the other
        TickCircuits x = reading("r050;r120;r230;r340;", "r030;r140;r250;r320;");
        for (int state = 0; state < 16; state++) {
            due("behind(0, " + state + ", 0)", x.behind(0, state, 0), state << 1 & 15 | state >> 3);
            due("behind(1, " + state + ", 3)", x.behind(1, state, 3), state >> 1 | (state & 1) << 3);
        }
    }

    private static void behindEachWire() {
        sentence(9, "Returns the state behind a tick.");
        // a next wire of each number; the gates are 1 and 0 by turns
        for (int wire = 0; wire < 16; wire++) {
            TickCircuits x = new TickCircuits();
            for (int gate = 0; gate < 8; gate++) {
                x.gate(1, gate, 4 + gate % 2, 15, 0);
            }
            x.register(1, 3, wire, 0);
            for (int bits = 0; bits < 64; bits += 9) {
                int all = bits | 0b0101_0101 << 6 | 1 << 15;
                due("next wire " + wire, x.behind(1, bits >> 2, bits & 3), (all >> wire & 1) << 3);
            }
        }
    }

    private static void behindNoGate() {
        sentence(9, "wires of gates that there are not are 0");
        TickCircuits x = reading("r0f0;r1f0;r2f0;r3f0;", "r060;r170;r2c0;r3d0;");
        due("next wires of 1", x.behind(0, 0, 0), 15);
        due("next wires of no gates", x.behind(1, 15, 3), 0);
        x.gate(1, 0, 5, 14, 14);
        due("one gate", x.behind(1, 0, 0), 1);
        x.gate(1, 1, 5, 14, 14);
        due("two gates", x.behind(1, 0, 0), 3);
        x.dropGate(1);
        due("one gate again", x.behind(1, 0, 0), 1);
    }

    // ---- promise 10: run

    private static void runArguments() {
        sentence(10, "ticks: 0 to 16; what: 0 [..] 1; INVALID_ARGUMENT if an argument is out of range");
        TickCircuits x = reading("of;", "of;");
        int[][] calls = {{-1, 0, 1, 1}, {2, 0, 1, 1}, {0, 0, -1, 1}, {0, 0, 17, 1}, {0, 0, 1, -1}, {0, 0, 1, 2}};
        for (int[] c : calls) {
            due(told(8, c[0], c[1], c[2], c[3]), x.run(c[0], c[1], c[2], c[3]), INVALID);
        }
        for (int number : FAR) {
            due("circuit " + number, x.run(number, 0, 1, 1), INVALID);
            due("ticks " + number, x.run(0, 0, number, 1), INVALID);
            due("what " + number, x.run(0, 0, 1, number), INVALID);
        }
        for (int ticks = 0; ticks <= 16; ticks++) {
            due(ticks + " ticks", x.run(1, 0, ticks, 1), (1 << ticks) - 1);
        }
    }

    private static void runAnyRow() {
        sentence(10, "any row is allowed");
        TickCircuits x = reading("o0;", "o1;");
        int[] rows = {Integer.MIN_VALUE, Integer.MIN_VALUE + 1, -1000001, -4, -1, 0, 1, 2, 3, 1 << 30,
            Integer.MAX_VALUE};
        for (int row : rows) {
            int zero = 0;
            int one = 0;
            for (int tick = 0; tick < 16; tick++) {
                zero |= (int) ((row & 0xFFFFFFFFL) >> (2 * tick) & 1) << tick;
                one |= (int) ((row & 0xFFFFFFFFL) >> (2 * tick + 1) & 1) << tick;
            }
            due("row " + row, x.run(0, row, 16, 1), zero);
            due("row " + row, x.run(1, row, 16, 1), one);
        }
    }

    private static void runNoTick() {
        sentence(10, "ticks: 0 to 16: how many ticks");
        for (int state = 0; state < 16; state++) {
            TickCircuits x = new TickCircuits();
            x.output(1, 15);
            for (int r = 0; r < 4; r++) {
                x.register(1, r, 15, state >> r & 1);
            }
            due("the state behind no tick", x.run(1, -1, 0, 0), state);
            due("the outputs of no tick", x.run(1, -1, 0, 1), 0);
            due("the state behind one tick", x.run(1, -1, 1, 0), 15);
        }
    }

    private static void runOneTick() {
        sentence(10, "that of the first tick being the lowest ones");
        TickCircuits x = reading("r000;r110;o0;", "001;r000;r110;o6;");
        for (int row = 0; row < 16; row++) {
            due("the state behind one tick", x.run(0, row, 1, 0), row & 3);
            due("the state behind two ticks", x.run(0, row, 2, 0), row >> 2);
            due("the outputs of two ticks", x.run(0, row, 2, 1), row & 1 | row >> 1 & 2);
            int due = ((row & 3) == 3 ? 1 : 0) + (row >> 2 == 3 ? 2 : 0);
            due("the outputs of two ticks", x.run(1, row, 2, 1), due);
        }
    }

    private static void runAllTicks() {
        sentence(10, "the outputs of the ticks, as bits, that of the first tick being bit 0");
        TickCircuits x = reading(CHAIN + "o5;", FREE_COUNTER + "oc;");
        due("the end of the chain, 16 ticks", x.run(0, 0x55555555, 16, 1), 0b1111_1111_1111_0000);
        due("the first one of 16 inputs", x.run(0, 1, 16, 1), 1 << 4);
        due("the twelfth one of 16 inputs", x.run(0, 1 << 22, 16, 1), 1 << 15);
        due("the 13th one of 16 inputs", x.run(0, 1 << 24, 16, 1), 0);
        due("the 13th one of 16 inputs, the state", x.run(0, 1 << 24, 16, 0), 8);
        due("the 16th one of 16 inputs, the state", x.run(0, 1 << 30, 16, 0), 1);
        due("the last one of 16 ticks", x.run(1, 0, 16, 1), 1 << 15);
        due("not the last one of 15 ticks", x.run(1, 0, 15, 1), 0);
        due("a counter behind 15 ticks", x.run(1, 0, 15, 0), 15);
        due("a counter that wraps around", x.run(1, 0, 16, 0), 0);
    }

    private static void runBitsBeyond() {
        sentence(10, "bits beyond the ticks do not matter");
        TickCircuits x = reading(CHAIN + "o0;", "");
        for (int ticks = 0; ticks < 16; ticks++) {
            int beyond = -1 << (2 * ticks);
            due("the outputs of " + ticks, x.run(0, beyond, ticks, 1), 0);
            due("the state behind " + ticks, x.run(0, beyond, ticks, 0), 0);
            due("the outputs of " + (ticks + 1), x.run(0, beyond, ticks + 1, 1), 1 << ticks);
            due("the state behind " + (ticks + 1), x.run(0, beyond, ticks + 1, 0), 1);
        }
    }

    private static void runFromFirstState() {
        sentence(10, "Runs a circuit from its first state.");
        TickCircuits x = reading(FREE_COUNTER + "o5;", "r000;r121;r231;r341;o5;");
        due("a counter behind 7 ticks", x.run(0, 0, 7, 0), 7);
        due("again from the start", x.run(0, 0, 7, 0), 7);
        due("the outputs", x.run(0, 0, 16, 1), 0xFF00);
        due("a chain of ones", x.run(1, 0, 16, 1), 0b0111);
        due("the first state stays", x.circuitOf(1, 2), 14);
    }

    // ---- promise 11: share

    private static void shareArguments() {
        sentence(11, "inputs: 0 to 3; INVALID_ARGUMENT if an argument is out of range");
        TickCircuits x = new TickCircuits();
        due("share(-1, 0)", x.share(-1, 0), INVALID);
        due("share(2, 0)", x.share(2, 0), INVALID);
        due("share(0, -1)", x.share(0, -1), INVALID);
        due("share(0, 4)", x.share(0, 4), INVALID);
        for (int number : FAR) {
            due("circuit " + number, x.share(number, 0), INVALID);
            due("inputs " + number, x.share(0, number), INVALID);
        }
        due("share(1, 3)", x.share(1, 3), 0);
    }

    private static void shareOfAllCounts() {
        sentence(11, "their number among all 16 states, as a float, divided by 16");
        for (int number = 0; number <= 16; number++) {
            // the output is 1 in the states that are less than the number
            TickCircuits x = new TickCircuits();
            int lower = 14;
            for (int r = 0; r < 4; r++) {
                x.gate(1, 2 * r, 5, 2 + r, 2 + r);
                x.gate(1, 2 * r + 1, number >> r & 1, 6 + 2 * r, lower);
                lower = 7 + 2 * r;
            }
            x.output(1, number == 16 ? 15 : lower);
            due(number + " of 16", x.share(1, 2), Float.floatToIntBits(number / 16f));
        }
    }

    private static void shareOfAllStates() {
        sentence(11, "Returns the bits of the share of states of a circuit with which the output is 1");
        // all states count, also those that are not come to
        TickCircuits x = reading("r020;o2;", "of;");
        due("one state of a register", x.share(0, 0), Float.floatToIntBits(0.5f));
        due("all states", x.share(1, 3), Float.floatToIntBits(1f));
        due("no state", new TickCircuits().share(0, 0), 0);
    }

    private static void shareOfInputs() {
        sentence(11, "in a tick with some inputs");
        TickCircuits x = reading("o0;", "o1;");
        for (int inputs = 0; inputs < 4; inputs++) {
            due("the input 0 of " + inputs, x.share(0, inputs), inputs % 2 == 0 ? 0 : 0x3F800000);
            due("the input 1 of " + inputs, x.share(1, inputs), inputs < 2 ? 0 : 0x3F800000);
        }
    }
}
