/** Each sentence of DOC.md that names a boundary case of the circuits: promises 1 to 7. */
public final class CircuitEdges extends Checks {
    /** Each gate stands on the one ahead of it with both wires. */
    private static final String EIGHT = "001;166;277;388;099;1aa;2bb;3cc;";

    public static void main(String[] args) {
        newWithoutGates();
        newWiresOfNoGates();
        newRegisters();
        newOutput();
        newText();
        newHistory();
        newForItself();
        lastOf512Calls();
        gateCircuit();
        gateNumber();
        gateKind();
        gateWires();
        gateReturns();
        gateLimit();
        gateAlone();
        dropGateCircuit();
        dropGateOfNone();
        dropGateReturns();
        dropGateWires();
        registerArguments();
        registerReturns();
        registerAlone();
        outputArguments();
        outputReturns();
        copyCircuit();
        copyReturns();
        copyWhole();
        whatOfCircuit();
        noSuchGate();
        firstStates();
        statesComeTo();
        steadyRegisters();
        classes();
        alikeStates();
        dependence();
        dependenceOfOneWire();
        dependenceOfNoGate();
        finish(1, 7);
    }

    // ---- promise 1: a new object

    private static void newWithoutGates() {
        sentence(1, "Creates two circuits without gates.");
        TickCircuits x = new TickCircuits();
        for (int circuit = 0; circuit < 2; circuit++) {
            due("circuitOf(" + circuit + ", 0)", x.circuitOf(circuit, 0), 0);
            for (int g = 0; g < 8; g++) {
                due("circuitOf(" + circuit + ", " + (10 + g) + ")", x.circuitOf(circuit, 10 + g), NOT_FOUND);
            }
            due("dropGate(" + circuit + ")", x.dropGate(circuit), NOT_POSSIBLE);
        }
        due("count(0)", x.count(0), 0);
        due("circuitOf(2, 0): there are two", x.circuitOf(2, 0), INVALID);
    }

    private static void newWiresOfNoGates() {
        sentence(1, "At first there are no gates (wires of gates that there are not are 0).");
        TickCircuits x = new TickCircuits();
        for (int wire = 6; wire < 14; wire++) {
            for (int inputs = 0; inputs < 4; inputs++) {
                due("bit(0, 0, " + inputs + ", " + wire + ")", x.bit(0, 0, inputs, wire), 0);
                due("bit(1, 15, " + inputs + ", " + wire + ")", x.bit(1, 15, inputs, wire), 0);
            }
        }
    }

    private static void newRegisters() {
        sentence(1, "A register has a next wire (0 to 15; at first 14) and a first bit (0 at first).");
        TickCircuits x = new TickCircuits();
        for (int circuit = 0; circuit < 2; circuit++) {
            due("circuitOf(" + circuit + ", 2)", x.circuitOf(circuit, 2), 0);
            for (int r = 0; r < 4; r++) {
                due("register(" + circuit + ", " + r + ", 14, 0)", x.register(circuit, r, 14, 0), 28);
            }
            due("behind(" + circuit + ", 15, 3)", x.behind(circuit, 15, 3), 0);
        }
    }

    private static void newOutput() {
        sentence(1, "A circuit has an output wire (0 to 15; at first 14).");
        TickCircuits x = new TickCircuits();
        for (int circuit = 0; circuit < 2; circuit++) {
            due("circuitOf(" + circuit + ", 1)", x.circuitOf(circuit, 1), 14);
            due("run(" + circuit + ", -1, 16, 1)", x.run(circuit, -1, 16, 1), 0);
            due("output(" + circuit + ", 14)", x.output(circuit, 14), 14);
        }
    }

    private static void newText() {
        sentence(1, "There is a text of at most 80 characters, initially empty.");
        TickCircuits x = new TickCircuits();
        due("count(3)", x.count(3), 0);
        due("fault(0)", x.fault(0), NOT_FOUND);
        due("clearText()", x.clearText(), 0);
    }

    private static void newHistory() {
        sentence(1, "A history of at most 4 states is kept");
        TickCircuits x = new TickCircuits();
        due("count(2)", x.count(2), 0);
        due("undo()", x.undo(), NOT_POSSIBLE);
    }

    private static void newForItself() {
        sentence(1, "TickCircuits()");
        TickCircuits other = reading(EIGHT + "r0f1;of;", EIGHT + "r0f1;of;");
        typeAll(other, "zz");
        TickCircuits x = new TickCircuits();
        due("count(0) of another object", x.count(0), 0);
        due("count(2) of another object", x.count(2), 0);
        due("count(3) of another object", x.count(3), 0);
        due("circuitOf(0, 2) of another object", x.circuitOf(0, 2), 0);
        x.gate(0, 0, 5, 1, 1);
        due("circuitOf(0, 10) of the first object", other.circuitOf(0, 10), 0);
        due("circuitOf(0, 0) of the first object", other.circuitOf(0, 0), 8);
    }

    private static void lastOf512Calls() {
        sentence(1, "An object is used for at most 512 calls after it has been made");
        TickCircuits x = new TickCircuits();
        int before = 14;
        for (int call = 1; call <= 507; call++) {
            due("output, call " + call, x.output(call & 1, call % 16), call < 3 ? 14 : before);
            before = (call - 1) % 16;
        }
        due("undo(), call 508", x.undo(), 3);
        due("undo(), call 509", x.undo(), 2);
        due("undo(), call 510", x.undo(), 1);
        due("undo(), call 511", x.undo(), 0);
        due("circuitOf(1, 1), call 512", x.circuitOf(1, 1), 503 % 16);
    }

    // ---- promise 2: gate

    private static void gateCircuit() {
        sentence(2, "circuit: 0 or 1");
        TickCircuits x = new TickCircuits();
        for (int circuit : new int[] {-1, 2, 3}) {
            due("gate(" + circuit + ", 0, 0, 0, 0)", x.gate(circuit, 0, 0, 0, 0), INVALID);
        }
        for (int circuit : FAR) {
            due("gate(" + circuit + ", 0, 0, 0, 0)", x.gate(circuit, 0, 0, 0, 0), INVALID);
        }
        due("gate(1, 0, 0, 0, 0)", x.gate(1, 0, 0, 0, 0), 1);
        due("circuitOf(0, 0)", x.circuitOf(0, 0), 0);
        due("gate(0, 0, 0, 0, 0)", x.gate(0, 0, 0, 0, 0), 1);
        due("circuitOf(1, 0)", x.circuitOf(1, 0), 1);
    }

    private static void gateNumber() {
        sentence(2, "gate: 0 to the number of gates (which adds one); a greater one is out of range");
        for (int gates = 0; gates < 8; gates++) {
            TickCircuits x = withGates(1, gates);
            String with = " with " + gates + " gates";
            due("gate -1" + with, x.gate(1, -1, 0, 0, 0), INVALID);
            for (int gate = gates + 1; gate < 11; gate++) {
                due("gate " + gate + with, x.gate(1, gate, 0, 0, 0), INVALID);
            }
            for (int gate : FAR) {
                due("gate " + gate + with, x.gate(1, gate, 0, 0, 0), INVALID);
            }
            for (int gate = 0; gate < gates; gate++) {
                due("gate " + gate + with, x.gate(1, gate, 1, 0, 0), gates);
            }
            due("gate " + gates + with, x.gate(1, gates, 1, 0, 0), gates + 1);
        }
    }

    private static void gateKind() {
        sentence(2, "kind: 0 to 5");
        TickCircuits x = new TickCircuits();
        for (int kind : new int[] {-1, 6, 7, 8, 15, 16}) {
            due("kind " + kind, x.gate(0, 0, kind, 0, 0), INVALID);
        }
        for (int kind : FAR) {
            due("kind " + kind, x.gate(0, 0, kind, 0, 0), INVALID);
        }
        for (int kind = 0; kind <= 5; kind++) {
            due("kind " + kind, x.gate(0, 0, kind, 0, 0), 1);
            due("circuitOf(0, 10)", x.circuitOf(0, 10), kind);
        }
    }

    private static void gateWires() {
        sentence(2, "two wires (of each kind), each with a lesser number than its own wire, or 14 or 15");
        for (int gate = 0; gate < 8; gate++) {
            TickCircuits x = withGates(0, gate);
            for (int wire = -1; wire <= 16; wire++) {
                boolean isAllowed = wire >= 0 && wire < 6 + gate || wire == 14 || wire == 15;
                for (int kind = 0; kind <= 5; kind += 5) {
                    String said = "gate " + gate + " of kind " + kind;
                    due(said + ", first " + wire, x.gate(0, gate, kind, wire, 0), isAllowed ? gate + 1 : INVALID);
                    due(said + ", second " + wire, x.gate(0, gate, kind, 0, wire), isAllowed ? gate + 1 : INVALID);
                }
            }
        }
        TickCircuits x = new TickCircuits();
        for (int wire : FAR) {
            due("first " + wire, x.gate(0, 0, 4, wire, 0), INVALID);
            due("second " + wire, x.gate(0, 0, 4, 0, wire), INVALID);
        }
        // the edges are kept as they were told
        for (int gate = 0; gate < 8; gate++) {
            x.gate(0, gate, 0, 5 + gate, 15);
            due("circuitOf(0, " + (20 + gate) + ")", x.circuitOf(0, 20 + gate), 5 + gate);
            due("circuitOf(0, " + (30 + gate) + ")", x.circuitOf(0, 30 + gate), 15);
        }
    }

    private static void gateReturns() {
        sentence(2, "Returns how many gates there are then");
        TickCircuits x = new TickCircuits();
        for (int gate = 0; gate < 8; gate++) {
            due("one that is added", x.gate(0, gate, 0, 0, 0), gate + 1);
            due("the last one that is changed", x.gate(0, gate, 1, 0, 0), gate + 1);
            due("the first one that is changed", x.gate(0, 0, 2, 0, 0), gate + 1);
            due("circuitOf(0, 0)", x.circuitOf(0, 0), gate + 1);
        }
    }

    private static void gateLimit() {
        sentence(2, "LIMIT_REACHED if gate is 8");
        TickCircuits x = withGates(0, 8);
        due("gate(0, 8, 0, 0, 0)", x.gate(0, 8, 0, 0, 0), LIMIT);
        // the wire of a gate 8 would be 14: all that are lesser, 14 and 15 are allowed for it
        for (int wire = 0; wire < 16; wire++) {
            due("gate(0, 8, 5, " + wire + ", 0)", x.gate(0, 8, 5, wire, 0), LIMIT);
            due("gate(0, 8, 5, 0, " + wire + ")", x.gate(0, 8, 5, 0, wire), LIMIT);
        }
        due("gate(0, 9, 0, 0, 0)", x.gate(0, 9, 0, 0, 0), INVALID);
        due("circuitOf(0, 0)", x.circuitOf(0, 0), 8);
        due("gate(1, 8, 0, 0, 0): the circuit 1 has none", x.gate(1, 8, 0, 0, 0), INVALID);
        due("gate(0, 7, 5, 12, 12)", x.gate(0, 7, 5, 12, 12), 8);
        x.dropGate(0);
        due("gate(0, 8, 0, 0, 0) with 7 gates", x.gate(0, 8, 0, 0, 0), INVALID);
        sentence(2, "If several errors apply to a call, INVALID_ARGUMENT is returned rather than [..] LIMIT_REACHED");
        x = withGates(0, 8);
        int[][] calls = {{2, 8, 0, 0, 0}, {-1, 8, 0, 0, 0}, {0, 8, 6, 0, 0}, {0, 8, -1, 0, 0}, {0, 8, 0, 16, 0},
            {0, 8, 0, -1, 0}, {0, 8, 0, 0, 16}, {0, 8, 0, 0, -1}};
        for (int[] c : calls) {
            due(told(0, c[0], c[1], c[2], c[3], c[4]), x.gate(c[0], c[1], c[2], c[3], c[4]), INVALID);
        }
    }

    private static void gateAlone() {
        sentence(2, "Adds a gate to a circuit, or changes one.");
        TickCircuits x = new TickCircuits();
        for (int gate = 0; gate < 8; gate++) {
            x.gate(0, gate, gate % 6, gate, 15 - gate % 2);
        }
        x.gate(0, 3, 5, 8, 14);
        for (int gate = 0; gate < 8; gate++) {
            due("kind of " + gate, x.circuitOf(0, 10 + gate), gate == 3 ? 5 : gate % 6);
            due("first wire of " + gate, x.circuitOf(0, 20 + gate), gate == 3 ? 8 : gate);
            due("second wire of " + gate, x.circuitOf(0, 30 + gate), gate == 3 ? 14 : 15 - gate % 2);
        }
        due("gates of the other circuit", x.circuitOf(1, 0), 0);
    }

    // ---- promise 3: dropGate

    private static void dropGateCircuit() {
        sentence(3, "INVALID_ARGUMENT if circuit is out of range");
        TickCircuits x = withGates(0, 1);
        x.gate(1, 0, 0, 0, 0);
        due("dropGate(-1)", x.dropGate(-1), INVALID);
        due("dropGate(2)", x.dropGate(2), INVALID);
        for (int circuit : FAR) {
            due("dropGate(" + circuit + ")", x.dropGate(circuit), INVALID);
        }
        due("count(0)", x.count(0), 2);
        sentence(3, "INVALID_ARGUMENT is returned rather than NOT_POSSIBLE");
        x = new TickCircuits();
        due("dropGate(-1) without gates", x.dropGate(-1), INVALID);
        due("dropGate(2) without gates", x.dropGate(2), INVALID);
    }

    private static void dropGateOfNone() {
        sentence(3, "NOT_POSSIBLE if there is none");
        for (int circuit = 0; circuit < 2; circuit++) {
            TickCircuits x = withGates(1 - circuit, 8);
            due("dropGate(" + circuit + ")", x.dropGate(circuit), NOT_POSSIBLE);
            x.gate(circuit, 0, 0, 0, 0);
            due("dropGate(" + circuit + ")", x.dropGate(circuit), 0);
            due("dropGate(" + circuit + ")", x.dropGate(circuit), NOT_POSSIBLE);
            due("gates of the other circuit", x.circuitOf(1 - circuit, 0), 8);
        }
    }

    private static void dropGateReturns() {
        sentence(3, "Drops the last gate of a circuit. Returns how many gates there are then");
        TickCircuits x = new TickCircuits();
        for (int gate = 0; gate < 8; gate++) {
            x.gate(1, gate, gate % 6, 0, 0);
        }
        for (int gates = 7; gates >= 0; gates--) {
            due("dropGate(1)", x.dropGate(1), gates);
            due("circuitOf(1, 0)", x.circuitOf(1, 0), gates);
            due("the dropped one", x.circuitOf(1, 10 + gates), NOT_FOUND);
            due("the last one", x.circuitOf(1, 9 + gates), gates > 0 ? (gates - 1) % 6 : INVALID);
        }
    }

    private static void dropGateWires() {
        sentence(3, "wires of gates that there are not are 0");
        TickCircuits x = reading("5ee;r060;o6;", "");
        due("bit(0, 0, 0, 6)", x.bit(0, 0, 0, 6), 1);
        x.dropGate(0);
        due("bit(0, 0, 0, 6)", x.bit(0, 0, 0, 6), 0);
        due("behind(0, 15, 3)", x.behind(0, 15, 3), 0);
        due("run(0, 0, 16, 1)", x.run(0, 0, 16, 1), 0);
        due("its output wire stays", x.circuitOf(0, 1), 6);
        x.gate(0, 0, 0, 0, 1);
        due("a new one in its place", x.circuitOf(0, 10), 0);
        due("a new one in its place", x.circuitOf(0, 20), 0);
        due("a new one in its place", x.circuitOf(0, 30), 1);
        due("run(0, 63, 4, 1)", x.run(0, 63, 4, 1), 7);
    }

    // ---- promise 4: register

    private static void registerArguments() {
        sentence(4, "register: 0 to 3; next: 0 to 15; first: 0 or 1; INVALID_ARGUMENT if an argument is out of range");
        TickCircuits x = new TickCircuits();
        int[][] calls = {{-1, 0, 0, 0}, {2, 0, 0, 0}, {0, -1, 0, 0}, {0, 4, 0, 0}, {0, 0, -1, 0}, {0, 0, 16, 0},
            {0, 0, 0, -1}, {0, 0, 0, 2}};
        for (int[] c : calls) {
            due(told(2, c[0], c[1], c[2], c[3]), x.register(c[0], c[1], c[2], c[3]), INVALID);
        }
        for (int number : FAR) {
            due("circuit " + number, x.register(number, 0, 0, 0), INVALID);
            due("register " + number, x.register(0, number, 0, 0), INVALID);
            due("next " + number, x.register(0, 0, number, 0), INVALID);
            due("first " + number, x.register(0, 0, 0, number), INVALID);
        }
        for (int next = 0; next <= 15; next++) {
            due("next " + next, x.register(1, 3, next, next & 1) >= 0);
        }
    }

    private static void registerReturns() {
        sentence(4, "Returns 2 times its next wire plus its first bit, as they were");
        for (int r = 0; r < 4; r++) {
            TickCircuits x = new TickCircuits();
            int before = 28;
            for (int next = 0; next <= 15; next++) {
                for (int first = 0; first < 2; first++) {
                    due(told(2, 1, r, next, first), x.register(1, r, next, first), before);
                    before = 2 * next + first;
                }
            }
            due("the last one", x.register(1, r, 0, 0), 31);
            due("the least one", x.register(1, r, 0, 0), 0);
        }
    }

    private static void registerAlone() {
        sentence(4, "Sets a register of a circuit.");
        for (int r = 0; r < 4; r++) {
            TickCircuits x = new TickCircuits();
            x.register(1, r, 15, 1);
            due("circuitOf(1, 2)", x.circuitOf(1, 2), 1 << r);
            due("behind(1, 0, 0)", x.behind(1, 0, 0), 1 << r);
            due("circuitOf(0, 2)", x.circuitOf(0, 2), 0);
            due("behind(0, 0, 0)", x.behind(0, 0, 0), 0);
        }
    }

    // ---- promise 5: output

    private static void outputArguments() {
        sentence(5, "wire: 0 to 15; INVALID_ARGUMENT if an argument is out of range");
        TickCircuits x = new TickCircuits();
        due("output(-1, 0)", x.output(-1, 0), INVALID);
        due("output(2, 0)", x.output(2, 0), INVALID);
        due("output(0, -1)", x.output(0, -1), INVALID);
        due("output(0, 16)", x.output(0, 16), INVALID);
        for (int number : FAR) {
            due("circuit " + number, x.output(number, 0), INVALID);
            due("wire " + number, x.output(0, number), INVALID);
        }
        due("circuitOf(0, 1)", x.circuitOf(0, 1), 14);
    }

    private static void outputReturns() {
        sentence(5, "Returns what it was");
        for (int circuit = 0; circuit < 2; circuit++) {
            TickCircuits x = new TickCircuits();
            int before = 14;
            for (int wire = 0; wire <= 15; wire++) {
                due(told(3, circuit, wire), x.output(circuit, wire), before);
                due("circuitOf(" + circuit + ", 1)", x.circuitOf(circuit, 1), wire);
                before = wire;
            }
            due("set to the same", x.output(circuit, 15), 15);
            due("of the other circuit", x.circuitOf(1 - circuit, 1), 14);
        }
    }

    // ---- promise 6: copy

    private static void copyCircuit() {
        sentence(6, "circuit: 0 or 1; INVALID_ARGUMENT if circuit is out of range");
        TickCircuits x = withGates(1, 3);
        due("copy(-1)", x.copy(-1), INVALID);
        due("copy(2)", x.copy(2), INVALID);
        for (int circuit : FAR) {
            due("copy(" + circuit + ")", x.copy(circuit), INVALID);
        }
        due("circuitOf(0, 0)", x.circuitOf(0, 0), 0);
        due("circuitOf(1, 0)", x.circuitOf(1, 0), 3);
    }

    private static void copyReturns() {
        sentence(6, "circuit: [..] the one that is copied. Returns how many gates it has");
        for (int circuit = 0; circuit < 2; circuit++) {
            TickCircuits x = withGates(circuit, 8);
            due("full over empty", x.copy(circuit), 8);
            due("gates of the other one", x.circuitOf(1 - circuit, 0), 8);
            due("full over full", x.copy(1 - circuit), 8);
            x = withGates(circuit, 8);
            due("empty over full", x.copy(1 - circuit), 0);
            due("gates of the one that was full", x.circuitOf(circuit, 0), 0);
            due("gates of the one that was empty", x.circuitOf(1 - circuit, 0), 0);
            due("empty over empty", x.copy(circuit), 0);
        }
    }

    private static void copyWhole() {
        sentence(6, "Copies a circuit over the other one.");
        for (int circuit = 0; circuit < 2; circuit++) {
            TickCircuits x = new TickCircuits();
            for (int gate = 0; gate < 8; gate++) {
                x.gate(circuit, gate, (gate + 5) % 6, 5 + gate, 15);
            }
            for (int r = 0; r < 4; r++) {
                x.register(circuit, r, 13 - r, 1);
            }
            x.output(circuit, 0);
            x.copy(circuit);
            x.dropGate(circuit);
            x.output(circuit, 1);
            x.register(circuit, 0, 0, 0);
            int other = 1 - circuit;
            for (int gate = 0; gate < 8; gate++) {
                due("kind of " + gate, x.circuitOf(other, 10 + gate), (gate + 5) % 6);
                due("first wire of " + gate, x.circuitOf(other, 20 + gate), 5 + gate);
                due("second wire of " + gate, x.circuitOf(other, 30 + gate), 15);
            }
            due("output wire", x.circuitOf(other, 1), 0);
            for (int r = 0; r < 4; r++) {
                due("register " + r, x.register(other, r, 14, 0), 2 * (13 - r) + 1);
            }
        }
    }

    // ---- promise 7: circuitOf

    private static void whatOfCircuit() {
        sentence(7, "INVALID_ARGUMENT if an argument is out of range, or what is none of these (g is 0 to 7)");
        TickCircuits x = withGates(0, 8);
        for (int what = -40; what <= 140; what++) {
            boolean isOne = what >= 0 && what <= 6 || what >= 10 && what < 40 && what % 10 < 8;
            due("circuitOf(0, " + what + ")", isOne ? x.circuitOf(0, what) >= 0 : x.circuitOf(0, what) == INVALID);
        }
        for (int number : FAR) {
            due("circuitOf(0, " + number + ")", x.circuitOf(0, number), INVALID);
            due("circuitOf(" + number + ", 0)", x.circuitOf(number, 0), INVALID);
        }
        due("circuitOf(-1, 0)", x.circuitOf(-1, 0), INVALID);
        due("circuitOf(2, 0)", x.circuitOf(2, 0), INVALID);
        sentence(7, "INVALID_ARGUMENT [..] rather than NOT_FOUND");
        x = new TickCircuits();
        due("circuitOf(2, 10)", x.circuitOf(2, 10), INVALID);
        due("circuitOf(-1, 37)", x.circuitOf(-1, 37), INVALID);
        for (int what : new int[] {18, 19, 28, 29, 38, 39}) {
            due("circuitOf(0, " + what + ") without gates", x.circuitOf(0, what), INVALID);
        }
    }

    private static void noSuchGate() {
        sentence(7, "NOT_FOUND if there is no such gate");
        for (int gates = 0; gates <= 8; gates++) {
            TickCircuits x = withGates(1, gates);
            for (int g = 0; g < 8; g++) {
                for (int tens = 10; tens <= 30; tens += 10) {
                    int due = g >= gates ? NOT_FOUND : tens == 30 ? 1 : 0;
                    due("circuitOf(1, " + (tens + g) + ") with " + gates, x.circuitOf(1, tens + g), due);
                    due("circuitOf(0, " + (tens + g) + ") with none", x.circuitOf(0, tens + g), NOT_FOUND);
                }
            }
        }
    }

    private static void firstStates() {
        sentence(7, "2: its first state; In the first tick the registers have their first bits.");
        for (int state = 0; state < 16; state++) {
            TickCircuits x = new TickCircuits();
            for (int r = 0; r < 4; r++) {
                x.register(1, r, 14, state >> r & 1);
            }
            due("circuitOf(1, 2)", x.circuitOf(1, 2), state);
            due("circuitOf(0, 2)", x.circuitOf(0, 2), 0);
        }
    }

    private static void statesComeTo() {
        sentence(7, "3: its states that are come to, as a set");
        TickCircuits x = reading(CHAIN, FIFTEEN);
        due("all", x.circuitOf(0, 3), 65535);
        due("all but 0", x.circuitOf(1, 3), 65534);
        x = reading(FREE_COUNTER, "r0f1;r1f1;r2f1;r3f1;");
        due("all, one by one", x.circuitOf(0, 3), 65535);
        due("the last one alone", x.circuitOf(1, 3), 32768);
        due("the first one alone", new TickCircuits().circuitOf(0, 3), 1);
        x = reading("r3e1;", "r0f0;r120;r230;r340;");
        due("the first one is one of them", x.circuitOf(0, 3), 1 | 1 << 8);
        due("one by one to the last one", x.circuitOf(1, 3), 1 | 1 << 1 | 1 << 3 | 1 << 7 | 1 << 15);
        String[] alone = {"101;56e;r070;", "51e;006;r070;", "50e;016;r070;", "001;r060;"};
        for (int inputs = 0; inputs < 4; inputs++) {
            due("by the inputs " + inputs + " alone", reading(alone[inputs], "").circuitOf(0, 3), 3);
        }
    }

    private static void steadyRegisters() {
        sentence(7, "4: registers that never change from their first bits, as a set");
        due("all", new TickCircuits().circuitOf(0, 4), 15);
        TickCircuits x = reading(CHAIN, "r021;r131;r241;r351;");
        due("none", x.circuitOf(0, 4), 0);
        due("all, of bits 1", x.circuitOf(1, 4), 15);
        x = reading("r0f0;r1f1;r2e0;r3e1;", "r000;r1f1;r201;r340;");
        due("of bits 0 and 1", x.circuitOf(0, 4), 6);
        due("one of bit 1", x.circuitOf(1, 4), 2);
        // the last register of a chain changes in the fourth tick alone
        x = reading("r0f0;r120;r230;r340;", "r020;r120;r230;r340;");
        due("late changes", x.circuitOf(0, 4), 0);
        due("no changes", x.circuitOf(1, 4), 15);
        // back at its first bit behind each second tick
        x = reading("52e;r061;", "");
        due("changes that come back", x.circuitOf(0, 4), 14);
    }

    private static void classes() {
        sentence(7, "5: how many classes of states that are come to there are, those that are alike being one class");
        due("one state", new TickCircuits().circuitOf(0, 5), 1);
        TickCircuits x = reading(CHAIN + "o5;", CHAIN + "o0;");
        due("16, one each", x.circuitOf(0, 5), 16);
        due("16, all alike", x.circuitOf(1, 5), 1);
        int[] due = {2, 4, 8, 16};
        for (int r = 0; r < 4; r++) {
            x.output(0, 2 + r);
            due("output of register " + r, x.circuitOf(0, 5), due[r]);
        }
        // the others would be told apart, but are not come to
        x = reading("r021;r131;r241;r351;o5;", "r020;r130;r2f0;o4;");
        due("the last one alone", x.circuitOf(0, 5), 1);
        due("two of 16", x.circuitOf(1, 5), 2);
    }

    private static void alikeStates() {
        sentence(7, "Two states of a circuit are alike if for all rows of inputs the outputs are the same from them on.");
        // 15 ticks are needed to tell the first two states of a counter apart
        TickCircuits x = reading(FREE_COUNTER + "oc;", FREE_COUNTER + "o3;");
        due("a row of 16 inputs", x.circuitOf(0, 5), 16);
        due("by turns of 4", x.circuitOf(1, 5), 4);
        // one input of 0 to 3 alone tells two states apart, in the same tick
        for (int inputs = 0; inputs < 4; inputs++) {
            x = reading("50e;51e;0" + (inputs % 2 == 0 ? 6 : 0) + (inputs < 2 ? 7 : 1) + ";082;r000;o9;", "");
            due("told apart by the inputs " + inputs, x.circuitOf(0, 5), 2);
            x.output(0, 8);
            due("not told apart", x.circuitOf(0, 5), 1);
        }
        // one input alone leads two of three states to states that are told apart
        String[] alone = {"101;56e;", "51e;060;", "50e;061;", "001;46e;"};
        for (int inputs = 0; inputs < 4; inputs++) {
            x = reading(alone[inputs] + "027;r000;r180;o3;", "");
            due("told apart behind the inputs " + inputs, x.circuitOf(0, 5), 3);
        }
        // the states 0 and 2 lead to the states 1 and 0, by which alone they are told apart
        due("told apart by way of the state 0", reading("53e;020;r060;r170;o2;", "").circuitOf(0, 5), 4);
        // the first register forgets at once, the second one keeps what the first one had
        x = reading("r000;r120;o3;", "r000;r130;o2;");
        due("told apart two ticks on", x.circuitOf(0, 5), 4);
        due("the second one is never seen", x.circuitOf(1, 5), 2);
    }

    private static void dependence() {
        sentence(7, "6: wires of gates on which the output depends in the same tick, as a set of gates");
        TickCircuits x = reading(EIGHT + "od;", EIGHT + "o6;");
        due("all", x.circuitOf(0, 6), 255);
        due("the first one alone", x.circuitOf(1, 6), 1);
        for (int gate = 0; gate < 8; gate++) {
            x.output(0, 6 + gate);
            due("output wire " + (6 + gate), x.circuitOf(0, 6), (2 << gate) - 1);
        }
        // each kind but 4 and 5 goes along both wires, though the bit may not change by one of them
        for (int kind = 0; kind < 4; kind++) {
            x = reading("001;101;" + kind + "67;o8;", "001;" + kind + "6e;" + kind + "e6;287;o9;");
            due("both wires of kind " + kind, x.circuitOf(0, 6), 7);
            due("with a wire of no gate, kind " + kind, x.circuitOf(1, 6), 15);
        }
    }

    private static void dependenceOfOneWire() {
        sentence(7, "going back along the wires of gates, of kinds 4 and 5 along the first one alone");
        for (int kind = 4; kind < 6; kind++) {
            TickCircuits x = reading("001;101;" + kind + "67;o8;", "001;101;" + kind + "76;o8;");
            due("the first wire of kind " + kind, x.circuitOf(0, 6), 5);
            due("the first wire of kind " + kind, x.circuitOf(1, 6), 6);
            x = reading("001;" + kind + "06;o7;", "001;" + kind + "66;o7;");
            due("a first wire of no gate, kind " + kind, x.circuitOf(0, 6), 2);
            due("both wires the same, kind " + kind, x.circuitOf(1, 6), 3);
        }
        sentence(7, "not through registers");
        TickCircuits x = reading("001;r060;o2;", "001;022;r060;o7;");
        due("a register as output", x.circuitOf(0, 6), 0);
        due("a gate on a register", x.circuitOf(1, 6), 2);
    }

    private static void dependenceOfNoGate() {
        sentence(7, "0 if the output wire is none of a gate that there is");
        TickCircuits x = reading(EIGHT + "od;", "");
        for (int gates = 7; gates >= 0; gates--) {
            x.dropGate(0);
            for (int wire = 0; wire < 16; wire++) {
                x.output(0, wire);
                int due = wire >= 6 && wire < 6 + gates ? (2 << (wire - 6)) - 1 : 0;
                due("output wire " + wire + " of " + gates + " gates", x.circuitOf(0, 6), due);
            }
        }
        due("without gates", new TickCircuits().circuitOf(1, 6), 0);
    }
}
