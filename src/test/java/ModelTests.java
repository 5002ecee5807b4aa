import java.util.ArrayDeque;
import java.util.ArrayList;
import java.util.Deque;
import java.util.HashSet;
import java.util.List;
import java.util.Map;
import java.util.Random;
import java.util.Set;
import java.util.TreeMap;
import java.util.regex.Matcher;
import java.util.regex.Pattern;

/**
 * Long runs of calls, each answer compared with that of a slow model that is written from DOC.md in other ways:
 * rows as texts, sets of the library, regular expressions.
 */
public final class ModelTests extends Checks {
    private static final int OBJECTS = 1000;
    private static final int CALLS = 512;

    public static void main(String[] args) {
        int wrong = 0;
        TreeMap<String, Integer> met = new TreeMap<>();
        for (int seed = 1; seed <= OBJECTS && wrong < 20; seed++) {
            wrong += compareRun(seed, met);
        }
        wrong += countUnmet(met);
        System.out.println(OBJECTS + " runs of " + CALLS + " calls, " + wrong + " wrong");
        if (wrong != 0) {
            System.exit(1);
        }
    }

    private static int compareRun(int seed, Map<String, Integer> met) {
        Calls calls = new Calls(seed);
        TickCircuits x = new TickCircuits();
        Model model = new Model();
        for (int i = 0; i < CALLS; i++) {
            int[] call = calls.next(model);
            int want = model.answer(call);
            int got = answer(x, call);
            met.merge(NAMES[call[0]] + " " + Math.min(want, 0), 1, Integer::sum);
            if (call[0] == 20 && call[1] == 1) {
                met.merge("reason " + want, 1, Integer::sum);
            }
            if (call[0] == 5 && call[2] == 5) {
                met.merge("classes " + want, 1, Integer::sum);
            }
            if (call[0] == 13) {
                met.merge("late " + want, 1, Integer::sum);
            }
            if (call[0] == 12 && call[1] == -1 && want > 0) {
                met.merge("apart after " + Math.min(want, 5), 1, Integer::sum);
            }
            if (got != want) {
                System.out.println("seed " + seed + ", call " + i + ": " + told(call) + " answered " + got
                    + ", due is " + want);
                return 1;
            }
        }
        return 0;
    }

    /** Runs in which some answer never came would compare too little. */
    private static int countUnmet(Map<String, Integer> met) {
        String[] due = {"gate -1000003", "dropGate -1000002", "circuitOf -1000004", "pairOf -1000004",
            "apart -1000004", "late -1000004", "late 0", "late 1", "late 2", "late 3", "late 4", "kinds -1000004",
            "undo -1000002", "type -1000003", "reason 1", "reason 2", "reason 3", "reason 4",
            "classes 1", "classes 2", "classes 4", "classes 8", "classes 16", "fault 0", "fault -1000004", "read 0", "read -1000002", "apart after 1",
            "apart after 2", "apart after 3", "apart after 4", "apart after 5"};
        int unmet = 0;
        for (String name : due) {
            if (met.getOrDefault(name, 0) < 3) {
                System.out.println("met too seldom: " + name + " " + met.getOrDefault(name, 0));
                unmet++;
            }
        }
        return unmet;
    }

    /** Chooses calls: most with arguments in range, some just beyond it, some far beyond. */
    private static final class Calls {
        private static final int[] EDGES = {Integer.MIN_VALUE, Integer.MIN_VALUE + 1, -1000002, -1000001, -2, -1, 1, 2,
            3, 4, 6, 7, 8, 9, 15, 16, 17, 31, 32, 64, 127, 255, 256, 265, 266, 1 << 20, Integer.MAX_VALUE};
        private final Random random;
        private final Deque<int[]> waiting = new ArrayDeque<>();

        Calls(int seed) {
            random = new Random(seed);
        }

        int[] next(Model model) {
            if (waiting.isEmpty()) {
                choose(model);
            }
            int[] call = waiting.remove();
            if (call[0] != 18 && call.length > 1 && random.nextInt(40) == 0) {
                call[1 + random.nextInt(call.length - 1)] = EDGES[random.nextInt(EDGES.length)];
            }
            return call;
        }

        private void choose(Model model) {
            switch (random.nextInt(35)) {
                case 0: case 1: typeParts(); break;
                case 2: chain(); break;
                case 3: likeness(model); break;
                case 4: add(18, 32 + random.nextInt(95)); break;
                case 5: add(12, -1); add(12, random.nextInt(3)); add(13); break;
                case 6: add(10, random.nextInt(6), random.nextInt(14)); add(11); break;
                case 7: case 8: case 9: case 10: addGate(model); break;
                case 11: undoAll(); break;
                default: anyCall(random.nextInt(NAMES.length)); break;
            }
        }

        private void add(int... call) {
            waiting.add(call);
        }

        private int upTo(int greatest) {
            return random.nextInt(greatest + 1);
        }

        private void addGate(Model model) {
            int circuit = upTo(1);
            int gates = model.now.gates.get(circuit).size();
            int gate = random.nextInt(3) == 0 ? upTo(gates) : gates;
            add(0, circuit, gate, upTo(5), wireBelow(gate), wireBelow(gate));
        }

        private int wireBelow(int gate) {
            return random.nextInt(10) == 0 ? 14 + upTo(1) : upTo(5 + gate);
        }

        // a delay line, so that circuits that are late, and rows that are long, come about
        private void chain() {
            int circuit = random.nextInt(3) == 0 ? 0 : 1;
            add(2, circuit, 0, upTo(1), upTo(1) & upTo(1));
            for (int register = 1; register < 4; register++) {
                add(2, circuit, register, 1 + register, upTo(1) & upTo(1) & upTo(1));
            }
            if (random.nextInt(2) == 0) {
                add(3, 0, upTo(1));
            }
            add(3, circuit, upTo(5));
            add(13);
            add(12, -1);
        }

        // the circuits made the same, then one of them changed a little
        private void likeness(Model model) {
            int circuit = upTo(1);
            add(4, circuit);
            int gates = model.now.gates.get(circuit).size();
            if (gates > 0) {
                int gate = upTo(gates - 1);
                add(15, gate);
                add(0, upTo(1), gate, upTo(5), wireBelow(gate), wireBelow(gate));
                add(3, circuit, 6 + gate);
                add(3, 1 - circuit, 6 + gate);
                add(12, -1);
                add(12, 1);
                add(15, gate);
                add(15, upTo(gates - 1));
            } else {
                add(2, upTo(1), upTo(3), upTo(15), upTo(1));
                add(12, -1);
            }
            for (int register = 0; register < 4; register++) {
                add(14, register);
            }
        }

        private void typeParts() {
            if (random.nextInt(3) > 0) {
                add(19);
            }
            int parts = upTo(7) + (random.nextInt(6) == 0 ? 9 : 0);
            StringBuilder text = new StringBuilder();
            int gates = 0;
            for (int part = 0; part < parts; part++) {
                int form = upTo(3);
                if (form == 0 && random.nextInt(3) > 0) {
                    text.append('r').append(upTo(3)).append(Integer.toHexString(upTo(15))).append(upTo(1));
                } else if (form == 1 && random.nextInt(3) > 0) {
                    text.append('o').append(Integer.toHexString(upTo(15)));
                } else {
                    text.append(upTo(5)).append(Integer.toHexString(wireBelow(gates)));
                    text.append(Integer.toHexString(wireBelow(gates)));
                    gates = Math.min(gates + 1, 8);
                }
                text.append(';');
            }
            if (text.length() > 0 && random.nextInt(3) == 0) {
                text.setCharAt(upTo(text.length() - 1), "0123456789abcdefor; ~".charAt(upTo(20)));
            }
            for (int i = 0; i < text.length(); i++) {
                add(18, text.charAt(i));
            }
            add(20, 0);
            add(20, 1);
            add(21, upTo(1));
        }

        private void undoAll() {
            for (int i = 0; i < 5; i++) {
                add(17);
                add(5, upTo(1), upTo(6));
                add(5, upTo(1), 10 * (1 + upTo(2)) + upTo(7));
            }
        }

        private void anyCall(int name) {
            int[] greatest;
            switch (name) {
                case 0: greatest = new int[] {1, 8, 5, 15, 15}; break;
                case 2: greatest = new int[] {1, 3, 15, 1}; break;
                case 3: greatest = new int[] {1, 15}; break;
                case 5: greatest = new int[] {1, random.nextBoolean() ? 6 : 38}; break;
                case 6: greatest = new int[] {1, 15, 3, 15}; break;
                case 7: greatest = new int[] {1, 15, 3}; break;
                case 8: greatest = new int[] {1, Integer.MAX_VALUE - 1, 16, 1}; break;
                case 9: greatest = new int[] {1, 3}; break;
                case 10: greatest = new int[] {50, random.nextBoolean() ? 3 : 16}; break;
                case 12: greatest = new int[] {5}; break;
                case 14: greatest = new int[] {3}; break;
                case 15: greatest = new int[] {7}; break;
                case 16: greatest = new int[] {3}; break;
                case 18: greatest = new int[] {127}; break;
                default: greatest = new int[ARGUMENTS[name]]; java.util.Arrays.fill(greatest, 1); break;
            }
            int[] call = new int[1 + greatest.length];
            call[0] = name;
            for (int i = 0; i < greatest.length; i++) {
                call[1 + i] = upTo(greatest[i]);
            }
            if (name == 8 && random.nextBoolean()) {
                call[2] = ~call[2];
            }
            add(call);
        }
    }

    /** Both circuits; gates as kind, first, second. */
    private static final class Two {
        final List<List<int[]>> gates = List.of(new ArrayList<>(), new ArrayList<>());
        final int[][] next = {{14, 14, 14, 14}, {14, 14, 14, 14}};
        final int[][] first = new int[2][4];
        final int[] output = {14, 14};

        Two same() {
            Two other = new Two();
            for (int c = 0; c < 2; c++) {
                other.put(c, this, c);
            }
            return other;
        }

        void put(int c, Two from, int other) {
            List<int[]> copied = new ArrayList<>();
            for (int[] gate : from.gates.get(other)) {
                copied.add(gate.clone());
            }
            gates.get(c).clear();
            gates.get(c).addAll(copied);
            next[c] = from.next[other].clone();
            first[c] = from.first[other].clone();
            output[c] = from.output[other];
        }

        int firstState(int c) {
            return first[c][0] + 2 * first[c][1] + 4 * first[c][2] + 8 * first[c][3];
        }

        boolean wire(int c, int state, int inputs, int wire) {
            if (wire < 2) {
                return (inputs & 1 << wire) != 0;
            }
            if (wire < 6) {
                return (state & 1 << (wire - 2)) != 0;
            }
            if (wire > 13 || wire - 6 >= gates.get(c).size()) {
                return wire == 15;
            }
            int[] gate = gates.get(c).get(wire - 6);
            boolean a = wire(c, state, inputs, gate[1]);
            if (gate[0] > 3) {
                return a == (gate[0] == 4);
            }
            boolean b = wire(c, state, inputs, gate[2]);
            return gate[0] == 0 ? a && b : gate[0] == 1 ? a || b : gate[0] == 2 ? a != b : !(a && b);
        }

        int out(int c, int state, int inputs) {
            return wire(c, state, inputs, output[c]) ? 1 : 0;
        }

        int behind(int c, int state, int inputs) {
            int sum = 0;
            for (int r = 3; r >= 0; r--) {
                sum = 2 * sum + (wire(c, state, inputs, next[c][r]) ? 1 : 0);
            }
            return sum;
        }

        void depend(int c, int wire, Set<Integer> found) {
            int g = wire - 6;
            if (g >= 0 && g < gates.get(c).size()) {
                found.add(g);
                depend(c, gates.get(c).get(g)[1], found);
                if (gates.get(c).get(g)[0] < 4) {
                    depend(c, gates.get(c).get(g)[2], found);
                }
            }
        }

        /** For each pair (16 times the state of 0, plus that of 1) its first row, as a text. */
        Map<Integer, String> rows() {
            Map<Integer, String> rows = new TreeMap<>();
            Map<String, Integer> level = new TreeMap<>();
            level.put("", 16 * firstState(0) + firstState(1));
            while (!level.isEmpty()) {
                Map<String, Integer> fresh = new TreeMap<>();
                for (Map.Entry<String, Integer> entry : level.entrySet()) {
                    if (rows.putIfAbsent(entry.getValue(), entry.getKey()) == null) {
                        fresh.put(entry.getKey(), entry.getValue());
                    }
                }
                level = new TreeMap<>();
                for (Map.Entry<String, Integer> entry : fresh.entrySet()) {
                    for (int inputs = 0; inputs < 4; inputs++) {
                        int behind = 16 * behind(0, entry.getValue() / 16, inputs)
                            + behind(1, entry.getValue() % 16, inputs);
                        level.put(entry.getKey() + inputs, behind);
                    }
                }
            }
            return rows;
        }

        String leastApart() {
            String least = null;
            for (Map.Entry<Integer, String> entry : rows().entrySet()) {
                for (int inputs = 0; inputs < 4; inputs++) {
                    String row = entry.getValue() + inputs;
                    if (out(0, entry.getKey() / 16, inputs) != out(1, entry.getKey() % 16, inputs)
                        && (least == null || compareRows(row, least) < 0)) {
                        least = row;
                    }
                }
            }
            return least;
        }

        boolean late(int ticks) {
            Set<List<Integer>> met = new HashSet<>();
            Deque<List<Integer>> open = new ArrayDeque<>();
            open.add(List.of(firstState(0), firstState(1)));
            met.add(open.peek());
            while (!open.isEmpty()) {
                List<Integer> here = open.remove();
                for (int inputs = 0; inputs < 4; inputs++) {
                    List<Integer> there = new ArrayList<>(here);
                    there.set(0, behind(0, here.get(0), inputs));
                    there.set(1, behind(1, here.get(1), inputs));
                    there.add(out(0, here.get(0), inputs));
                    if (there.size() > 2 + ticks) {
                        if (there.remove(2) != out(1, here.get(1), inputs)) {
                            return false;
                        }
                    }
                    if (met.add(there)) {
                        open.add(there);
                    }
                }
            }
            return true;
        }

        Set<Integer> states(int c) {
            Set<Integer> met = new HashSet<>();
            Deque<Integer> open = new ArrayDeque<>();
            open.add(firstState(c));
            while (!open.isEmpty()) {
                int state = open.remove();
                if (met.add(state)) {
                    for (int inputs = 0; inputs < 4; inputs++) {
                        open.add(behind(c, state, inputs));
                    }
                }
            }
            return met;
        }

        boolean alike(int c, int one, int other) {
            Set<Integer> met = new HashSet<>();
            Deque<Integer> open = new ArrayDeque<>();
            open.add(16 * one + other);
            while (!open.isEmpty()) {
                int both = open.remove();
                if (met.add(both)) {
                    for (int inputs = 0; inputs < 4; inputs++) {
                        if (out(c, both / 16, inputs) != out(c, both % 16, inputs)) {
                            return false;
                        }
                        open.add(16 * behind(c, both / 16, inputs) + behind(c, both % 16, inputs));
                    }
                }
            }
            return true;
        }
    }

    private static int compareRows(String one, String other) {
        return one.length() != other.length() ? one.length() - other.length() : one.compareTo(other);
    }

    private static boolean in(int number, int least, int greatest) {
        return least <= number && number <= greatest;
    }

    /** The object of the document, written for plainness. */
    private static final class Model {
        private static final Pattern PART =
            Pattern.compile("(?:([0-5])([0-9a-f])([0-9a-f])|r([0-3])([0-9a-f])([01])|o([0-9a-f]));");
        Two now = new Two();
        private final Deque<Two> history = new ArrayDeque<>();
        private String text = "";
        private int faultAt;
        private int faultReason;

        int answer(int[] c) {
            switch (c[0]) {
                case 0: return gate(c[1], c[2], c[3], c[4], c[5]);
                case 1: return dropGate(c[1]);
                case 2: return register(c[1], c[2], c[3], c[4]);
                case 3: return output(c[1], c[2]);
                case 4: return copy(c[1]);
                case 5: return circuitOf(c[1], c[2]);
                case 6: return in(c[1], 0, 1) && in(c[2], 0, 15) && in(c[3], 0, 3) && in(c[4], 0, 15)
                    ? now.wire(c[1], c[2], c[3], c[4]) ? 1 : 0 : INVALID;
                case 7: return in(c[1], 0, 1) && in(c[2], 0, 15) && in(c[3], 0, 3)
                    ? now.behind(c[1], c[2], c[3]) : INVALID;
                case 8: return run(c[1], c[2], c[3], c[4]);
                case 9: return share(c[1], c[2]);
                case 10: return pairOf(c[1], c[2]);
                case 11: return now.rows().size();
                case 12: return apart(c[1]);
                case 13: return late();
                case 14: return same(c[1]);
                case 15: return kinds(c[1]);
                case 16: return count(c[1]);
                case 17: return undo();
                case 18: return type(c[1]);
                case 19: return clearText();
                case 20: return fault(c[1]);
                default: return read(c[1]);
            }
        }

        private void change() {
            history.addLast(now.same());
            if (history.size() == 5) {
                history.removeFirst();
            }
        }

        private int gate(int c, int gate, int kind, int first, int second) {
            if (!in(c, 0, 1)) {
                return INVALID;
            }
            int gates = now.gates.get(c).size();
            boolean allowed = in(gate, 0, gates) && in(kind, 0, 5);
            for (int wire : new int[] {first, second}) {
                allowed = allowed && in(wire, 0, 15) && (wire < 6 + gate || wire > 13);
            }
            if (!allowed) {
                return INVALID;
            }
            if (gate == 8) {
                return LIMIT;
            }
            change();
            if (gate < gates) {
                now.gates.get(c).remove(gate);
            }
            now.gates.get(c).add(gate, new int[] {kind, first, second});
            return now.gates.get(c).size();
        }

        private int dropGate(int c) {
            if (!in(c, 0, 1)) {
                return INVALID;
            }
            List<int[]> gates = now.gates.get(c);
            if (gates.isEmpty()) {
                return NOT_POSSIBLE;
            }
            change();
            gates.remove(gates.size() - 1);
            return gates.size();
        }

        private int register(int c, int r, int next, int first) {
            if (!in(c, 0, 1) || !in(r, 0, 3) || !in(next, 0, 15) || !in(first, 0, 1)) {
                return INVALID;
            }
            change();
            int was = 2 * now.next[c][r] + now.first[c][r];
            now.next[c][r] = next;
            now.first[c][r] = first;
            return was;
        }

        private int output(int c, int wire) {
            if (!in(c, 0, 1) || !in(wire, 0, 15)) {
                return INVALID;
            }
            change();
            int was = now.output[c];
            now.output[c] = wire;
            return was;
        }

        private int copy(int c) {
            if (!in(c, 0, 1)) {
                return INVALID;
            }
            change();
            now.put(1 - c, now, c);
            return now.gates.get(1 - c).size();
        }

        private int circuitOf(int c, int what) {
            if (!in(c, 0, 1)) {
                return INVALID;
            }
            Set<Integer> found = new HashSet<>();
            switch (what) {
                case 0: return now.gates.get(c).size();
                case 1: return now.output[c];
                case 2: return now.firstState(c);
                case 3: return bits(now.states(c));
                case 4:
                    for (int r = 0; r < 4; r++) {
                        boolean still = true;
                        for (int state : now.states(c)) {
                            still = still && (state >> r & 1) == now.first[c][r];
                        }
                        if (still) {
                            found.add(r);
                        }
                    }
                    return bits(found);
                case 5:
                    for (int state : now.states(c)) {
                        boolean isNew = true;
                        for (int other : found) {
                            isNew = isNew && !now.alike(c, state, other);
                        }
                        if (isNew) {
                            found.add(state);
                        }
                    }
                    return found.size();
                case 6:
                    now.depend(c, now.output[c], found);
                    return bits(found);
                default:
                    if (!in(what, 10, 37) || what % 10 > 7) {
                        return INVALID;
                    }
                    return what % 10 < now.gates.get(c).size() ? now.gates.get(c).get(what % 10)[what / 10 - 1]
                        : NOT_FOUND;
            }
        }

        private static int bits(Set<Integer> set) {
            int sum = 0;
            for (int number : set) {
                sum += 1 << number;
            }
            return sum;
        }

        private int run(int c, int row, int ticks, int what) {
            if (!in(c, 0, 1) || !in(ticks, 0, 16) || !in(what, 0, 1)) {
                return INVALID;
            }
            long inputs = row & 0xFFFFFFFFL;
            int state = now.firstState(c);
            int outputs = 0;
            int weight = 1;
            for (int tick = 0; tick < ticks; tick++) {
                outputs += weight * now.out(c, state, (int) (inputs % 4));
                state = now.behind(c, state, (int) (inputs % 4));
                inputs /= 4;
                weight *= 2;
            }
            return what == 1 ? outputs : state;
        }

        private int share(int c, int inputs) {
            if (!in(c, 0, 1) || !in(inputs, 0, 3)) {
                return INVALID;
            }
            float states = 0;
            for (int state = 0; state < 16; state++) {
                states += now.out(c, state, inputs);
            }
            return Float.floatToIntBits(states / 16);
        }

        private int pairOf(int pair, int what) {
            if (pair < 0 || !(in(what, 0, 3) || in(what, 10, 265))) {
                return INVALID;
            }
            Map<Integer, String> rows = now.rows();
            List<Integer> order = new ArrayList<>(rows.keySet());
            order.sort((one, other) -> compareRows(rows.get(one), rows.get(other)));
            if (pair >= order.size()) {
                return NOT_FOUND;
            }
            int states = order.get(pair);
            String row = rows.get(states);
            if (what >= 10) {
                return what - 10 < row.length() ? row.charAt(what - 10) - '0' : NOT_FOUND;
            }
            int differ = 0;
            for (int inputs = 0; inputs < 4; inputs++) {
                differ += now.out(0, states / 16, inputs) != now.out(1, states % 16, inputs) ? 1 << inputs : 0;
            }
            return new int[] {states / 16, states % 16, row.length(), differ}[what];
        }

        private int apart(int index) {
            if (index < -1) {
                return INVALID;
            }
            String row = now.leastApart();
            if (row == null || index >= row.length()) {
                return NOT_FOUND;
            }
            return index < 0 ? row.length() : row.charAt(index) - '0';
        }

        private int late() {
            for (int ticks = 0; ticks < 5; ticks++) {
                if (now.late(ticks)) {
                    return ticks;
                }
            }
            return NOT_FOUND;
        }

        private int same(int r) {
            if (!in(r, 0, 3)) {
                return INVALID;
            }
            Set<Integer> found = new HashSet<>(Set.of(0, 1, 2, 3));
            for (int pair : now.rows().keySet()) {
                found.removeIf(other -> (pair / 16 >> r & 1) != (pair % 16 >> other & 1));
            }
            return bits(found);
        }

        private int kinds(int gate) {
            if (!in(gate, 0, 7)) {
                return INVALID;
            }
            if (gate >= now.gates.get(0).size()) {
                return NOT_FOUND;
            }
            Set<Integer> found = new HashSet<>();
            for (int kind = 0; kind < 6; kind++) {
                Two other = now.same();
                other.gates.get(0).get(gate)[0] = kind;
                if (other.leastApart() == null) {
                    found.add(kind);
                }
            }
            return bits(found);
        }

        private int count(int what) {
            if (!in(what, 0, 3)) {
                return INVALID;
            }
            return new int[] {now.gates.get(0).size() + now.gates.get(1).size(), now.leastApart() == null ? 1 : 0,
                history.size(), text.length()}[what];
        }

        private int undo() {
            if (history.isEmpty()) {
                return NOT_POSSIBLE;
            }
            now = history.removeLast();
            return history.size();
        }

        private int type(int character) {
            if (!in(character, 32, 126)) {
                return INVALID;
            }
            if (text.length() == 80) {
                return LIMIT;
            }
            text += (char) character;
            return text.length();
        }

        private int clearText() {
            int was = text.length();
            text = "";
            return was;
        }

        private int fault(int what) {
            if (!in(what, 0, 1)) {
                return INVALID;
            }
            return parse() != null ? NOT_FOUND : what == 0 ? faultAt : faultReason;
        }

        private int read(int c) {
            if (!in(c, 0, 1)) {
                return INVALID;
            }
            Two parsed = parse();
            if (parsed == null) {
                return NOT_POSSIBLE;
            }
            change();
            now.put(c, parsed, 0);
            return now.gates.get(c).size();
        }

        /** The text as the circuit 0 of new ones, null if it has a fault. */
        private Two parse() {
            Two made = new Two();
            Set<String> told = new HashSet<>();
            int at = 0;
            while (at < text.length()) {
                Matcher part = PART.matcher(text).region(at, text.length());
                faultAt = at;
                faultReason = !part.lookingAt() ? 1 : reasonOf(part, made, told);
                if (faultReason != 0) {
                    return null;
                }
                at = part.end();
            }
            return made;
        }

        private static int reasonOf(Matcher part, Two made, Set<String> told) {
            List<int[]> gates = made.gates.get(0);
            if (part.group(1) != null) {
                int[] gate = {hex(part.group(1)), hex(part.group(2)), hex(part.group(3))};
                if (gates.size() == 8) {
                    return 2;
                }
                for (int i = 1; i < 3; i++) {
                    if (gate[i] >= 6 + gates.size() && gate[i] < 14) {
                        return 3;
                    }
                }
                gates.add(gate);
                return 0;
            }
            if (!told.add(part.group(7) != null ? "output" : part.group(4))) {
                return 4;
            }
            if (part.group(7) != null) {
                made.output[0] = hex(part.group(7));
            } else {
                made.next[0][hex(part.group(4))] = hex(part.group(5));
                made.first[0][hex(part.group(4))] = hex(part.group(6));
            }
            return 0;
        }

        private static int hex(String digit) {
            return Integer.parseInt(digit, 16);
        }
    }
}
