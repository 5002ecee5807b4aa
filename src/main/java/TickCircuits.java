import java.util.Arrays;

/** Two circuits in step, as DOC.md promises it. */
public final class TickCircuits {
    public static final int INVALID_ARGUMENT = -1000001;
    public static final int NOT_POSSIBLE = -1000002;
    public static final int LIMIT_REACHED = -1000003;
    public static final int NOT_FOUND = -1000004;

    private static final int INPUT_ROWS = 4;
    private static final int REGISTERS = 4;
    private static final int STATES = 16;
    private static final int PAIRS = STATES * STATES;
    private static final int MOST_GATES = 8;
    private static final int MOST_TICKS_LATE = 4;
    private static final int MOST_TICKS_RUN = 16;

    private static final int FIRST_REGISTER_WIRE = 2;
    private static final int FIRST_GATE_WIRE = 6;
    private static final int ZERO_WIRE = 14;
    private static final int ONE_WIRE = 15;
    private static final int WIRES = 16;

    private static final int AND = 0;
    private static final int OR = 1;
    private static final int EXCLUSIVE_OR = 2;
    private static final int NOT_AND = 3;
    private static final int FIRST_ALONE = 4;
    private static final int NOT_FIRST = 5;

    private final Circuit zero;
    private final Circuit one;
    private final Circuit trial;
    private final StepTable zeroTable;
    private final StepTable oneTable;
    private final StepTable askedTable;
    private final PairWalk walk;
    private final LateWalk lateWalk;
    private final AlikeStates alike;
    private final History history;
    private final Text text;
    private final Reader reader;

    public TickCircuits() {
        zero = new Circuit();
        one = new Circuit();
        trial = new Circuit();
        zeroTable = new StepTable();
        oneTable = new StepTable();
        askedTable = new StepTable();
        walk = new PairWalk();
        lateWalk = new LateWalk();
        alike = new AlikeStates();
        history = new History();
        text = new Text();
        reader = new Reader();
    }

    // ---- circuits

    public int gate(int circuit, int gate, int kind, int first, int second) {
        if (!isCircuit(circuit) || !isWithin(kind, AND, NOT_FIRST)) {
            return INVALID_ARGUMENT;
        }
        Circuit changed = circuitAt(circuit);
        if (!isWithin(gate, 0, changed.gateCount())
                || !mayFeed(gate, first) || !mayFeed(gate, second)) {
            return INVALID_ARGUMENT;
        }
        if (gate >= MOST_GATES) {
            return LIMIT_REACHED;
        }
        history.keep(zero, one);
        changed.setGate(gate, kind, first, second);
        return changed.gateCount();
    }

    public int dropGate(int circuit) {
        if (!isCircuit(circuit)) {
            return INVALID_ARGUMENT;
        }
        Circuit changed = circuitAt(circuit);
        if (changed.gateCount() == 0) {
            return NOT_POSSIBLE;
        }
        history.keep(zero, one);
        changed.dropLastGate();
        return changed.gateCount();
    }

    public int register(int circuit, int register, int next, int first) {
        if (!isCircuit(circuit) || !isRegister(register) || !isWire(next) || !isWithin(first, 0, 1)) {
            return INVALID_ARGUMENT;
        }
        Circuit changed = circuitAt(circuit);
        int before = 2 * changed.nextWire(register) + changed.firstBit(register);
        history.keep(zero, one);
        changed.setRegister(register, next, first);
        return before;
    }

    public int output(int circuit, int wire) {
        if (!isCircuit(circuit) || !isWire(wire)) {
            return INVALID_ARGUMENT;
        }
        Circuit changed = circuitAt(circuit);
        int before = changed.outputWire();
        history.keep(zero, one);
        changed.setOutputWire(wire);
        return before;
    }

    public int copy(int circuit) {
        if (!isCircuit(circuit)) {
            return INVALID_ARGUMENT;
        }
        Circuit original = circuitAt(circuit);
        history.keep(zero, one);
        circuitAt(1 - circuit).takeFrom(original);
        return original.gateCount();
    }

    public int circuitOf(int circuit, int what) {
        if (!isCircuit(circuit)) {
            return INVALID_ARGUMENT;
        }
        Circuit asked = circuitAt(circuit);
        if (isWithin(what, 3, 5)) {
            return tellStates(asked, what);
        }
        if (isWithin(what, 0, 6)) {
            return tellWires(asked, what);
        }
        if (isWithin(what, 10, 17) || isWithin(what, 20, 27) || isWithin(what, 30, 37)) {
            return tellGate(asked, what % 10, what / 10);
        }
        return INVALID_ARGUMENT;
    }

    // ---- ticks

    public int bit(int circuit, int state, int inputs, int wire) {
        if (!isCircuit(circuit) || !isState(state) || !areInputs(inputs) || !isWire(wire)) {
            return INVALID_ARGUMENT;
        }
        return bitOf(circuitAt(circuit).wireBits(state, inputs), wire);
    }

    public int behind(int circuit, int state, int inputs) {
        if (!isCircuit(circuit) || !isState(state) || !areInputs(inputs)) {
            return INVALID_ARGUMENT;
        }
        Circuit asked = circuitAt(circuit);
        return asked.stateAfter(asked.wireBits(state, inputs));
    }

    public int run(int circuit, int row, int ticks, int what) {
        if (!isCircuit(circuit) || !isWithin(ticks, 0, MOST_TICKS_RUN) || !isWithin(what, 0, 1)) {
            return INVALID_ARGUMENT;
        }
        Circuit asked = circuitAt(circuit);
        int state = asked.firstState();
        int outputs = 0;
        for (int tick = 0; tick < ticks; tick++) {
            int bits = asked.wireBits(state, row >>> (2 * tick) & 3);
            outputs |= bitOf(bits, asked.outputWire()) << tick;
            state = asked.stateAfter(bits);
        }
        return what == 0 ? state : outputs;
    }

    public int share(int circuit, int inputs) {
        if (!isCircuit(circuit) || !areInputs(inputs)) {
            return INVALID_ARGUMENT;
        }
        Circuit asked = circuitAt(circuit);
        int ones = 0;
        for (int state = 0; state < STATES; state++) {
            ones += bitOf(asked.wireBits(state, inputs), asked.outputWire());
        }
        return floatBitsOfSixteenths(ones);
    }

    // ---- both

    public int pairOf(int pair, int what) {
        if (pair < 0 || !(isWithin(what, 0, 3) || isWithin(what, 10, 9 + PAIRS))) {
            return INVALID_ARGUMENT;
        }
        walkWith(zero);
        if (pair >= walk.size()) {
            return NOT_FOUND;
        }
        switch (what) {
            case 0:
                return walk.zeroState(pair);
            case 1:
                return walk.oneState(pair);
            case 2:
                return walk.ticksTo(pair);
            case 3:
                return differingInputs(pair);
            default:
                return what - 10 < walk.ticksTo(pair) ? walk.inputsOnWay(pair, what - 10) : NOT_FOUND;
        }
    }

    public int pairs() {
        walkWith(zero);
        return walk.size();
    }

    public int apart(int index) {
        if (index < -1) {
            return INVALID_ARGUMENT;
        }
        walkWith(zero);
        int pair = firstPairApart();
        if (pair >= walk.size()) {
            return NOT_FOUND;
        }
        int ticks = walk.ticksTo(pair);
        if (index == -1) {
            return ticks + 1;
        }
        if (index > ticks) {
            return NOT_FOUND;
        }
        return index == ticks ? leastOf(differingInputs(pair)) : walk.inputsOnWay(pair, index);
    }

    public int late() {
        zeroTable.fillFrom(zero);
        oneTable.fillFrom(one);
        for (int ticks = 0; ticks <= MOST_TICKS_LATE; ticks++) {
            if (lateWalk.isLateBy(ticks, zeroTable, oneTable)) {
                return ticks;
            }
        }
        return NOT_FOUND;
    }

    public int same(int register) {
        if (!isRegister(register)) {
            return INVALID_ARGUMENT;
        }
        walkWith(zero);
        int unlike = 0;
        for (int pair = 0; pair < walk.size() && pair < PAIRS; pair++) {
            int expected = bitOf(walk.zeroState(pair), register) == 1 ? STATES - 1 : 0;
            unlike |= walk.oneState(pair) ^ expected;
        }
        return (STATES - 1) & ~unlike;
    }

    public int kinds(int gate) {
        if (!isWithin(gate, 0, MOST_GATES - 1)) {
            return INVALID_ARGUMENT;
        }
        if (gate >= zero.gateCount()) {
            return NOT_FOUND;
        }
        int found = 0;
        for (int kind = AND; kind <= NOT_FIRST; kind++) {
            trial.takeFrom(zero);
            trial.setGate(gate, kind, zero.firstWire(gate), zero.secondWire(gate));
            if (neverApart(trial)) {
                found |= 1 << kind;
            }
        }
        return found;
    }

    public int count(int what) {
        switch (what) {
            case 0:
                return zero.gateCount() + one.gateCount();
            case 1:
                return neverApart(zero) ? 1 : 0;
            case 2:
                return history.size();
            case 3:
                return text.length();
            default:
                return INVALID_ARGUMENT;
        }
    }

    public int undo() {
        if (history.size() == 0) {
            return NOT_POSSIBLE;
        }
        history.giveBack(zero, one);
        return history.size();
    }

    // ---- texts

    public int type(int character) {
        if (!isWithin(character, 32, 126)) {
            return INVALID_ARGUMENT;
        }
        if (text.length() >= Text.MOST_CHARACTERS) {
            return LIMIT_REACHED;
        }
        text.append(character);
        return text.length();
    }

    public int clearText() {
        int before = text.length();
        text.empty();
        return before;
    }

    public int fault(int what) {
        if (!isWithin(what, 0, 1)) {
            return INVALID_ARGUMENT;
        }
        reader.readWhole(text);
        if (reader.faultReason() == Reader.NO_FAULT) {
            return NOT_FOUND;
        }
        return what == 0 ? reader.faultPosition() : reader.faultReason();
    }

    public int read(int circuit) {
        if (!isCircuit(circuit)) {
            return INVALID_ARGUMENT;
        }
        reader.readWhole(text);
        if (reader.faultReason() != Reader.NO_FAULT) {
            return NOT_POSSIBLE;
        }
        Circuit changed = circuitAt(circuit);
        history.keep(zero, one);
        changed.takeFrom(reader.circuitRead());
        return changed.gateCount();
    }

    // ---- what the calls share

    private Circuit circuitAt(int circuit) {
        return circuit == 0 ? zero : one;
    }

    private static int tellWires(Circuit asked, int what) {
        switch (what) {
            case 0:
                return asked.gateCount();
            case 1:
                return asked.outputWire();
            case 2:
                return asked.firstState();
            default:
                return asked.gatesBehindOutput();
        }
    }

    private int tellStates(Circuit asked, int what) {
        askedTable.fillFrom(asked);
        int states = askedTable.statesComeTo();
        switch (what) {
            case 3:
                return states;
            case 4:
                return askedTable.steadyRegisters(states);
            default:
                alike.findUnlike(askedTable);
                return alike.classesAmong(states);
        }
    }

    private static int tellGate(Circuit asked, int gate, int tens) {
        if (gate >= asked.gateCount()) {
            return NOT_FOUND;
        }
        if (tens == 1) {
            return asked.kindOf(gate);
        }
        return tens == 2 ? asked.firstWire(gate) : asked.secondWire(gate);
    }

    private void walkWith(Circuit inPlaceOfZero) {
        zeroTable.fillFrom(inPlaceOfZero);
        oneTable.fillFrom(one);
        walk.walkFromFirst(zeroTable, oneTable);
    }

    private boolean neverApart(Circuit inPlaceOfZero) {
        walkWith(inPlaceOfZero);
        return firstPairApart() >= walk.size();
    }

    // The pairs are in the order of their first rows, so the first one with a difference
    // stands at the end of the least row, and no tick ahead of it has a difference.
    private int firstPairApart() {
        int pair = 0;
        while (pair < walk.size() && pair < PAIRS && differingInputs(pair) == 0) {
            pair++;
        }
        return pair;
    }

    private int differingInputs(int pair) {
        return zeroTable.outputSet(walk.zeroState(pair)) ^ oneTable.outputSet(walk.oneState(pair));
    }

    private static boolean isWithin(int number, int least, int greatest) {
        return number >= least && number <= greatest;
    }

    private static boolean isCircuit(int number) {
        return isWithin(number, 0, 1);
    }

    private static boolean isRegister(int number) {
        return isWithin(number, 0, REGISTERS - 1);
    }

    private static boolean isWire(int number) {
        return isWithin(number, 0, WIRES - 1);
    }

    private static boolean isState(int number) {
        return isWithin(number, 0, STATES - 1);
    }

    private static boolean areInputs(int number) {
        return isWithin(number, 0, INPUT_ROWS - 1);
    }

    private static boolean mayFeed(int gate, int wire) {
        return isWithin(wire, 0, FIRST_GATE_WIRE + gate - 1) || wire == ZERO_WIRE || wire == ONE_WIRE;
    }

    private static int bitOf(int bits, int place) {
        return bits >>> place & 1;
    }

    private static int leastOf(int set) {
        int least = 0;
        while (least < INPUT_ROWS - 1 && bitOf(set, least) == 0) {
            least++;
        }
        return least;
    }

    // The library's floatToIntBits is not at hand: the bits are put together by hand. The highest
    // bit of the number gives the exponent, the bits below it are the upper ones of the fraction.
    private static int floatBitsOfSixteenths(int sixteenths) {
        if (sixteenths <= 0) {
            return 0;
        }
        int highest = 0;
        while (highest < 4 && sixteenths >> (highest + 1) != 0) {
            highest++;
        }
        int exponent = 127 + highest - 4;
        int fraction = (sixteenths ^ 1 << highest) << (23 - highest);
        return exponent << 23 | fraction;
    }

    /** A row of numbers in which no place can be missed: beyond its ends it reads as 0. */
    private static final class Row {
        private final int[] cells;

        Row(int length) {
            cells = new int[length < 0 ? 0 : length];
        }

        int get(int place) {
            return place >= 0 && place < cells.length ? cells[place] : 0;
        }

        void set(int place, int value) {
            if (place >= 0 && place < cells.length) {
                cells[place] = value;
            }
        }

        void clear() {
            Arrays.fill(cells, 0);
        }
    }

    /** Gates, registers and the output wire of one circuit. */
    private static final class Circuit {
        static final int SAVED_CELLS = 2 + REGISTERS + MOST_GATES;

        private int gateCount;
        private int outputWire;
        // 2 times the next wire plus the first bit
        private final Row registerCells;
        // 256 times the kind plus 16 times the first wire plus the second one
        private final Row gateCells;

        Circuit() {
            registerCells = new Row(REGISTERS);
            gateCells = new Row(MOST_GATES);
            startAnew();
        }

        void startAnew() {
            gateCount = 0;
            outputWire = ZERO_WIRE;
            for (int register = 0; register < REGISTERS; register++) {
                setRegister(register, ZERO_WIRE, 0);
            }
        }

        int gateCount() {
            return gateCount;
        }

        int outputWire() {
            return outputWire;
        }

        void setOutputWire(int wire) {
            outputWire = wire;
        }

        void setRegister(int register, int next, int first) {
            registerCells.set(register, 2 * next + first);
        }

        int nextWire(int register) {
            return registerCells.get(register) >> 1;
        }

        int firstBit(int register) {
            return registerCells.get(register) & 1;
        }

        int firstState() {
            int state = 0;
            for (int register = 0; register < REGISTERS; register++) {
                state |= firstBit(register) << register;
            }
            return state;
        }

        void setGate(int gate, int kind, int first, int second) {
            gateCells.set(gate, kind << 8 | first << 4 | second);
            if (gate == gateCount && gateCount < MOST_GATES) {
                gateCount++;
            }
        }

        void dropLastGate() {
            if (gateCount > 0) {
                gateCount--;
            }
        }

        int kindOf(int gate) {
            return gateCells.get(gate) >> 8;
        }

        int firstWire(int gate) {
            return gateCells.get(gate) >> 4 & 15;
        }

        int secondWire(int gate) {
            return gateCells.get(gate) & 15;
        }

        /** The bits of all wires in a tick. */
        int wireBits(int state, int inputs) {
            int bits = 1 << ONE_WIRE | state << FIRST_REGISTER_WIRE | inputs;
            for (int gate = 0; gate < gateCount && gate < MOST_GATES; gate++) {
                int first = bitOf(bits, firstWire(gate));
                int second = bitOf(bits, secondWire(gate));
                bits |= gateBit(kindOf(gate), first, second) << (FIRST_GATE_WIRE + gate);
            }
            return bits;
        }

        private static int gateBit(int kind, int first, int second) {
            switch (kind) {
                case AND:
                    return first & second;
                case OR:
                    return first | second;
                case EXCLUSIVE_OR:
                    return first ^ second;
                case NOT_AND:
                    return 1 - (first & second);
                case FIRST_ALONE:
                    return first;
                default:
                    return 1 - first;
            }
        }

        int stateAfter(int wireBits) {
            int state = 0;
            for (int register = 0; register < REGISTERS; register++) {
                state |= bitOf(wireBits, nextWire(register)) << register;
            }
            return state;
        }

        // A gate's wires lead to lesser gates alone, so one pass downwards meets them all.
        int gatesBehindOutput() {
            int found = gateOnWire(outputWire);
            for (int gate = MOST_GATES - 1; gate >= 0; gate--) {
                if (bitOf(found, gate) == 1) {
                    found |= gateOnWire(firstWire(gate));
                    if (kindOf(gate) < FIRST_ALONE) {
                        found |= gateOnWire(secondWire(gate));
                    }
                }
            }
            return found;
        }

        private int gateOnWire(int wire) {
            int gate = wire - FIRST_GATE_WIRE;
            return isWithin(gate, 0, gateCount - 1) ? 1 << gate : 0;
        }

        void takeFrom(Circuit other) {
            for (int cell = 0; cell < SAVED_CELLS; cell++) {
                setSavedCell(cell, other.savedCell(cell));
            }
        }

        /** The circuit as a row of numbers: how many gates, output wire, registers, gates. */
        int savedCell(int cell) {
            if (cell == 0) {
                return gateCount;
            }
            if (cell == 1) {
                return outputWire;
            }
            return cell < 2 + REGISTERS ? registerCells.get(cell - 2) : gateCells.get(cell - 2 - REGISTERS);
        }

        void setSavedCell(int cell, int value) {
            if (cell == 0) {
                gateCount = value;
            } else if (cell == 1) {
                outputWire = value;
            } else if (cell < 2 + REGISTERS) {
                registerCells.set(cell - 2, value);
            } else {
                gateCells.set(cell - 2 - REGISTERS, value);
            }
        }
    }

    /** A circuit worked out for all states and inputs, for the walks that step often. */
    private static final class StepTable {
        private final Row statesBehind;
        private final Row outputSets;
        private int firstState;

        StepTable() {
            statesBehind = new Row(STATES * INPUT_ROWS);
            outputSets = new Row(STATES);
        }

        void fillFrom(Circuit circuit) {
            firstState = circuit.firstState();
            for (int state = 0; state < STATES; state++) {
                int outputs = 0;
                for (int inputs = 0; inputs < INPUT_ROWS; inputs++) {
                    int bits = circuit.wireBits(state, inputs);
                    outputs |= bitOf(bits, circuit.outputWire()) << inputs;
                    statesBehind.set(state * INPUT_ROWS + inputs, circuit.stateAfter(bits));
                }
                outputSets.set(state, outputs);
            }
        }

        int firstState() {
            return firstState;
        }

        int stateBehind(int state, int inputs) {
            return statesBehind.get(state * INPUT_ROWS + inputs);
        }

        /** The inputs with which the output is 1 in this state, as a set. */
        int outputSet(int state) {
            return outputSets.get(state);
        }

        // A round that is not the last one adds a state, so there are no more rounds than states.
        int statesComeTo() {
            int states = 1 << firstState;
            for (int round = 0; round < STATES; round++) {
                states |= statesBehindAny(states);
            }
            return states;
        }

        private int statesBehindAny(int states) {
            int found = 0;
            for (int state = 0; state < STATES; state++) {
                for (int inputs = 0; inputs < INPUT_ROWS && bitOf(states, state) == 1; inputs++) {
                    found |= 1 << stateBehind(state, inputs);
                }
            }
            return found;
        }

        int steadyRegisters(int states) {
            int changing = 0;
            for (int state = 0; state < STATES; state++) {
                if (bitOf(states, state) == 1) {
                    changing |= state ^ firstState;
                }
            }
            return (STATES - 1) & ~changing;
        }
    }

    /** Finds which states of a circuit are alike. */
    private static final class AlikeStates {
        // for each state those that are known not to be alike, as a set
        private final Row unlikeSets;

        AlikeStates() {
            unlikeSets = new Row(STATES);
        }

        // Each round tells apart by rows of one more input; a round that tells no more apart is the
        // last one, and there are fewer of the others than states.
        void findUnlike(StepTable table) {
            unlikeSets.clear();
            boolean toldMore = true;
            for (int round = 0; round < STATES && toldMore; round++) {
                toldMore = false;
                for (int state = 0; state < STATES; state++) {
                    int found = unlikeTo(state, table);
                    toldMore = toldMore || found != unlikeSets.get(state);
                    unlikeSets.set(state, found);
                }
            }
        }

        /** How many classes these states are in, by what was found for their circuit. */
        int classesAmong(int states) {
            int classes = 0;
            for (int state = 0; state < STATES; state++) {
                int lesserAlike = states & ~unlikeSets.get(state) & ((1 << state) - 1);
                if (bitOf(states, state) == 1 && lesserAlike == 0) {
                    classes++;
                }
            }
            return classes;
        }

        private int unlikeTo(int state, StepTable table) {
            int found = 0;
            for (int other = 0; other < STATES; other++) {
                if (table.outputSet(state) != table.outputSet(other) || leadToUnlike(state, other, table)) {
                    found |= 1 << other;
                }
            }
            return found;
        }

        private boolean leadToUnlike(int state, int other, StepTable table) {
            boolean unlike = false;
            for (int inputs = 0; inputs < INPUT_ROWS && !unlike; inputs++) {
                int behindState = table.stateBehind(state, inputs);
                int behindOther = table.stateBehind(other, inputs);
                unlike = bitOf(unlikeSets.get(behindState), behindOther) == 1;
            }
            return unlike;
        }
    }

    /** The pairs of states that are come to, in their order. */
    private static final class PairWalk {
        private final Row isMet;
        private final Row zeroStates;
        private final Row oneStates;
        private final Row ticks;
        // of each pair but the first: the place of the pair ahead of it, and the inputs from there
        private final Row placesAhead;
        private final Row lastInputs;
        private int size;

        PairWalk() {
            isMet = new Row(PAIRS);
            zeroStates = new Row(PAIRS);
            oneStates = new Row(PAIRS);
            ticks = new Row(PAIRS);
            placesAhead = new Row(PAIRS);
            lastInputs = new Row(PAIRS);
        }

        // A pair is met first by its least row: the pairs ahead are taken in the order of their
        // least rows, and from each the inputs in their order.
        void walkFromFirst(StepTable zeroTable, StepTable oneTable) {
            isMet.clear();
            size = 0;
            meet(zeroTable.firstState(), oneTable.firstState(), -1, 0);
            for (int place = 0; place < size && place < PAIRS; place++) {
                for (int inputs = 0; inputs < INPUT_ROWS; inputs++) {
                    meet(zeroTable.stateBehind(zeroState(place), inputs),
                            oneTable.stateBehind(oneState(place), inputs), place, inputs);
                }
            }
        }

        private void meet(int zeroState, int oneState, int placeAhead, int inputs) {
            int code = zeroState * STATES + oneState;
            if (isMet.get(code) == 1 || size >= PAIRS) {
                return;
            }
            isMet.set(code, 1);
            zeroStates.set(size, zeroState);
            oneStates.set(size, oneState);
            ticks.set(size, placeAhead < 0 ? 0 : ticks.get(placeAhead) + 1);
            placesAhead.set(size, placeAhead);
            lastInputs.set(size, inputs);
            size++;
        }

        int size() {
            return size;
        }

        int zeroState(int place) {
            return zeroStates.get(place);
        }

        int oneState(int place) {
            return oneStates.get(place);
        }

        int ticksTo(int place) {
            return ticks.get(place);
        }

        /** The inputs in a tick of the first row of a pair; the tick is one of that row. */
        int inputsOnWay(int place, int tick) {
            int from = place;
            for (int steps = ticksTo(place) - 1 - tick; steps > 0; steps--) {
                from = placesAhead.get(from);
            }
            return lastInputs.get(from);
        }
    }

    /** Walks both circuits together with the outputs of the circuit 0 that are still waited for. */
    private static final class LateWalk {
        // The outputs waited for are bits below a leading 1, so that their number is told, too.
        private static final int NONE_WAITED_FOR = 1;
        private static final int MOST_SITUATIONS = PAIRS << (MOST_TICKS_LATE + 1);

        private final Row isMet;
        private final Row situations;
        private int size;

        LateWalk() {
            isMet = new Row(MOST_SITUATIONS);
            situations = new Row(MOST_SITUATIONS);
        }

        boolean isLateBy(int ticks, StepTable zeroTable, StepTable oneTable) {
            size = 0;
            meet(NONE_WAITED_FOR, zeroTable.firstState(), oneTable.firstState());
            boolean isLate = true;
            for (int place = 0; place < size && place < MOST_SITUATIONS && isLate; place++) {
                for (int inputs = 0; inputs < INPUT_ROWS && isLate; inputs++) {
                    isLate = step(situations.get(place), inputs, ticks, zeroTable, oneTable);
                }
            }
            forgetAll();
            return isLate;
        }

        /** Goes on by a tick; false if the circuit 1 does not answer as the circuit 0 did. */
        private boolean step(int situation, int inputs, int ticks, StepTable zeroTable, StepTable oneTable) {
            int zeroState = situation / STATES % STATES;
            int oneState = situation % STATES;
            int waitedFor = situation / PAIRS * 2 + bitOf(zeroTable.outputSet(zeroState), inputs);
            int full = 2 << ticks;
            if (waitedFor >= full) {
                if (bitOf(waitedFor, ticks) != bitOf(oneTable.outputSet(oneState), inputs)) {
                    return false;
                }
                waitedFor = waitedFor & (full / 2 - 1) | full / 2;
            }
            meet(waitedFor, zeroTable.stateBehind(zeroState, inputs), oneTable.stateBehind(oneState, inputs));
            return true;
        }

        private void meet(int waitedFor, int zeroState, int oneState) {
            int situation = (waitedFor * STATES + zeroState) * STATES + oneState;
            if (isMet.get(situation) == 0 && size < MOST_SITUATIONS) {
                isMet.set(situation, 1);
                situations.set(size, situation);
                size++;
            }
        }

        // Only what was met is cleared: most walks are far shorter than the row.
        private void forgetAll() {
            for (int place = 0; place < size && place < MOST_SITUATIONS; place++) {
                isMet.set(situations.get(place), 0);
            }
        }
    }

    /** The latest states of both circuits ahead of changes. */
    private static final class History {
        private static final int MOST_STATES = 4;
        private static final int STATE_CELLS = 2 * Circuit.SAVED_CELLS;

        private final Row cells;
        private int size;

        History() {
            cells = new Row(MOST_STATES * STATE_CELLS);
        }

        int size() {
            return size;
        }

        void keep(Circuit zero, Circuit one) {
            if (size >= MOST_STATES) {
                dropOldest();
            }
            int start = size * STATE_CELLS;
            for (int cell = 0; cell < Circuit.SAVED_CELLS; cell++) {
                cells.set(start + cell, zero.savedCell(cell));
                cells.set(start + Circuit.SAVED_CELLS + cell, one.savedCell(cell));
            }
            size++;
        }

        private void dropOldest() {
            for (int cell = 0; cell < (MOST_STATES - 1) * STATE_CELLS; cell++) {
                cells.set(cell, cells.get(cell + STATE_CELLS));
            }
            size--;
        }

        void giveBack(Circuit zero, Circuit one) {
            if (size == 0) {
                return;
            }
            size--;
            int start = size * STATE_CELLS;
            for (int cell = 0; cell < Circuit.SAVED_CELLS; cell++) {
                zero.setSavedCell(cell, cells.get(start + cell));
                one.setSavedCell(cell, cells.get(start + Circuit.SAVED_CELLS + cell));
            }
        }
    }

    /** The text that is typed. */
    private static final class Text {
        static final int MOST_CHARACTERS = 80;

        private final Row characters;
        private int length;

        Text() {
            characters = new Row(MOST_CHARACTERS);
        }

        int length() {
            return length;
        }

        void append(int character) {
            if (length < MOST_CHARACTERS) {
                characters.set(length, character);
                length++;
            }
        }

        void empty() {
            length = 0;
        }

        /** The character at a position; 0, which is none that can be typed, beyond the end. */
        int characterAt(int position) {
            return position < length ? characters.get(position) : 0;
        }
    }

    /** Reads a text as a circuit, up to its fault. */
    private static final class Reader {
        static final int NO_FAULT = 0;
        private static final int WRONG_FORM = 1;
        private static final int TOO_MANY_GATES = 2;
        private static final int WIRE_NOT_ALLOWED = 3;
        private static final int TOLD_BEFORE = 4;
        // the output's place in the set of what was told, behind the registers
        private static final int OUTPUT_TOLD = REGISTERS;

        private final Circuit circuit;
        private int position;
        private int reason;
        private int toldSet;

        Reader() {
            circuit = new Circuit();
        }

        /** The circuit of the text that was read, if it has no fault. */
        Circuit circuitRead() {
            return circuit;
        }

        int faultPosition() {
            return position;
        }

        int faultReason() {
            return reason;
        }

        void readWhole(Text text) {
            circuit.startAnew();
            position = 0;
            reason = NO_FAULT;
            toldSet = 0;
            for (int part = 0; part < Text.MOST_CHARACTERS && reason == NO_FAULT; part++) {
                if (position < text.length()) {
                    readPart(text);
                }
            }
        }

        private void readPart(Text text) {
            int head = text.characterAt(position);
            if (head == 'r') {
                readRegister(text);
            } else if (head == 'o') {
                readOutput(text);
            } else {
                readGate(text);
            }
        }

        private void readGate(Text text) {
            int kind = digitAt(text, 0);
            int first = digitAt(text, 1);
            int second = digitAt(text, 2);
            int gate = circuit.gateCount();
            if (!isWithin(kind, AND, NOT_FIRST) || first < 0 || second < 0 || !partEndsAt(text, 3)) {
                reason = WRONG_FORM;
            } else if (gate >= MOST_GATES) {
                reason = TOO_MANY_GATES;
            } else if (!mayFeed(gate, first) || !mayFeed(gate, second)) {
                reason = WIRE_NOT_ALLOWED;
            } else {
                circuit.setGate(gate, kind, first, second);
                position += 4;
            }
        }

        private void readRegister(Text text) {
            int register = digitAt(text, 1);
            int next = digitAt(text, 2);
            int first = digitAt(text, 3);
            if (!isRegister(register) || next < 0 || !isWithin(first, 0, 1) || !partEndsAt(text, 4)) {
                reason = WRONG_FORM;
            } else if (bitOf(toldSet, register) == 1) {
                reason = TOLD_BEFORE;
            } else {
                toldSet |= 1 << register;
                circuit.setRegister(register, next, first);
                position += 5;
            }
        }

        private void readOutput(Text text) {
            int wire = digitAt(text, 1);
            if (wire < 0 || !partEndsAt(text, 2)) {
                reason = WRONG_FORM;
            } else if (bitOf(toldSet, OUTPUT_TOLD) == 1) {
                reason = TOLD_BEFORE;
            } else {
                toldSet |= 1 << OUTPUT_TOLD;
                circuit.setOutputWire(wire);
                position += 3;
            }
        }

        private boolean partEndsAt(Text text, int offset) {
            return text.characterAt(position + offset) == ';';
        }

        /** The value of the digit at an offset from the part's start, -1 if there is none. */
        private int digitAt(Text text, int offset) {
            int character = text.characterAt(position + offset);
            if (isWithin(character, '0', '9')) {
                return character - '0';
            }
            return isWithin(character, 'a', 'f') ? character - 'a' + 10 : -1;
        }
    }
}
