import java.util.Arrays;

/** Calls that are refused, and questions, of each promise: the error that is due, and nothing changes by them. */
public final class RefusalEdges extends Checks {
    private static final int GATE = 0;
    private static final int RUN = 8;
    private static final int MAX = Integer.MAX_VALUE;
    /** Where no argument is out of range. */
    private static final int[] ANY = {Integer.MIN_VALUE, MAX};

    /** For each name: arguments that are in range for the busy object. */
    private static final int[][] IN_RANGE = {{0, 2, 0, 0, 0}, {0}, {0, 0, 0, 0}, {0, 0}, {0}, {0, 0}, {0, 0, 0, 0},
        {0, 0, 0}, {0, 0, 0, 0}, {0, 0}, {0, 0}, {}, {0}, {}, {0}, {0}, {0}, {}, {48}, {}, {0}, {0}};
    /** For each name and argument: the least one and the greatest one. */
    private static final int[][][] RANGES = {{{0, 1}, {0, 2}, {0, 5}, {0, 15}, {0, 15}}, {{0, 1}},
        {{0, 1}, {0, 3}, {0, 15}, {0, 1}}, {{0, 1}, {0, 15}}, {{0, 1}}, {{0, 1}, {0, 37}},
        {{0, 1}, {0, 15}, {0, 3}, {0, 15}}, {{0, 1}, {0, 15}, {0, 3}}, {{0, 1}, ANY, {0, 16}, {0, 1}},
        {{0, 1}, {0, 3}}, {{0, MAX}, {0, 265}}, {}, {{-1, MAX}}, {}, {{0, 3}}, {{0, 7}}, {{0, 3}}, {}, {{32, 126}},
        {}, {{0, 1}}, {{0, 1}}};

    private static final int[] BARE = everything(new TickCircuits());
    private static final int[] BUSY = everything(busy());

    public static void main(String[] args) {
        constants();
        outOfRange();
        gapsInRanges();
        notPossible();
        limitReached();
        notFound();
        severalErrors();
        questions();
        finish();
    }

    /** Two gates and eight, a full history, and a full text with a fault. */
    private static TickCircuits busy() {
        TickCircuits x = reading("201;062;r061;r171;o7;", "001;101;201;301;401;501;06b;1bc;r2d0;od;");
        x.register(0, 3, 1, 0);
        x.output(1, 12);
        typeAll(x, "o7;066;" + "z".repeat(73));
        return x;
    }

    /** All that is in an object now and in each state of its history, which is gone then. */
    private static int[] everything(TickCircuits x) {
        int[] all = new int[400];
        int n = 0;
        for (int step = 0; step < 6; step++) {
            for (int circuit = 0; circuit < 2; circuit++) {
                int gates = x.circuitOf(circuit, 0);
                all[n++] = gates;
                all[n++] = x.circuitOf(circuit, 1);
                all[n++] = x.circuitOf(circuit, 2);
                for (int g = 0; g < gates; g++) {
                    all[n++] = x.circuitOf(circuit, 10 + g);
                    all[n++] = x.circuitOf(circuit, 20 + g);
                    all[n++] = x.circuitOf(circuit, 30 + g);
                }
                for (int state = 0; state < 16; state += 5) {
                    all[n++] = x.behind(circuit, state, 1);
                    all[n++] = x.behind(circuit, state, 2);
                }
            }
            all[n++] = x.undo();
        }
        all[n++] = x.fault(0);
        all[n++] = x.fault(1);
        all[n] = x.clearText();
        return all;
    }

    /** A call answers what is due, and all stays as it was. */
    private static void dueAndNoChange(boolean isBusy, int want, int... call) {
        TickCircuits x = isBusy ? busy() : new TickCircuits();
        String said = told(call) + (isBusy ? " of a busy object" : " of a new object");
        due(said, answer(x, call), want);
        due(said + " changed something", Arrays.equals(everything(x), isBusy ? BUSY : BARE));
    }

    private static void constants() {
        sentence(1, "INVALID_ARGUMENT = -1000001 [..] NOT_POSSIBLE = -1000002 [..] LIMIT_REACHED = -1000003 [..]");
        due("INVALID_ARGUMENT", TickCircuits.INVALID_ARGUMENT, -1000001);
        due("NOT_POSSIBLE", TickCircuits.NOT_POSSIBLE, -1000002);
        due("LIMIT_REACHED", TickCircuits.LIMIT_REACHED, -1000003);
        due("NOT_FOUND", TickCircuits.NOT_FOUND, -1000004);
    }

    private static void outOfRange() {
        for (int name = 0; name < NAMES.length; name++) {
            int[][] ranges = RANGES[name];
            if (ranges.length > 0) {
                sentence(name + 2, "INVALID_ARGUMENT if an argument is out of range; "
                    + "A call that returns an error changes nothing.");
            }
            for (int i = 0; i < ranges.length; i++) {
                refuseBelow(name, i, ranges[i][0]);
                refuseAbove(name, i, ranges[i][1]);
            }
        }
    }

    private static void refuseBelow(int name, int i, int least) {
        if (least != Integer.MIN_VALUE) {
            for (int number : new int[] {Integer.MIN_VALUE, NOT_POSSIBLE, -256, -17, least - 1}) {
                dueAndNoChange(true, INVALID, with(name, i, number));
            }
        }
    }

    private static void refuseAbove(int name, int i, int greatest) {
        if (greatest != MAX) {
            for (int number : new int[] {greatest + 1, greatest + 16, greatest + 256, 1 << 30, MAX}) {
                dueAndNoChange(true, INVALID, with(name, i, number));
            }
        }
    }

    private static int[] with(int name, int argument, int number) {
        int[] call = new int[1 + IN_RANGE[name].length];
        call[0] = name;
        System.arraycopy(IN_RANGE[name], 0, call, 1, IN_RANGE[name].length);
        call[1 + argument] = number;
        return call;
    }

    private static void gapsInRanges() {
        sentence(2, "first: a wire that is allowed for it; A call that returns an error changes nothing.");
        for (int gate = 0; gate <= 2; gate++) {
            for (int wire = 6 + gate; wire < 14; wire++) {
                dueAndNoChange(true, INVALID, 0, 0, gate, 0, wire, 0);
                dueAndNoChange(true, INVALID, 0, 0, gate, 5, 0, wire);
            }
        }
        sentence(7, "what is none of these (g is 0 to 7); A call that returns an error changes nothing.");
        for (int what : new int[] {7, 8, 9, 18, 19, 28, 29, 38, 39}) {
            dueAndNoChange(true, INVALID, 5, 1, what);
        }
        sentence(12, "what is none of these (k is 0 to 255); A call that returns an error changes nothing.");
        for (int what = 4; what < 10; what++) {
            dueAndNoChange(true, INVALID, 10, 0, what);
        }
    }

    private static void notPossible() {
        sentence(3, "NOT_POSSIBLE if there is none; A call that returns an error changes nothing.");
        dueAndNoChange(false, NOT_POSSIBLE, 1, 0);
        dueAndNoChange(false, NOT_POSSIBLE, 1, 1);
        sentence(19, "NOT_POSSIBLE if it is empty; A call that returns an error changes nothing.");
        dueAndNoChange(false, NOT_POSSIBLE, 17);
        sentence(23, "NOT_POSSIBLE if the text has a fault; A call that returns an error changes nothing.");
        dueAndNoChange(true, NOT_POSSIBLE, 21, 0);
        dueAndNoChange(true, NOT_POSSIBLE, 21, 1);
    }

    private static void limitReached() {
        sentence(2, "LIMIT_REACHED if gate is 8; A call that returns an error changes nothing.");
        dueAndNoChange(true, LIMIT, GATE, 1, 8, 0, 0, 0);
        dueAndNoChange(true, LIMIT, GATE, 1, 8, 5, 13, 15);
        sentence(20, "LIMIT_REACHED if it has 80 characters; A call that returns an error changes nothing.");
        dueAndNoChange(true, LIMIT, 18, 32);
        dueAndNoChange(true, LIMIT, 18, 126);
    }

    private static void notFound() {
        sentence(7, "NOT_FOUND if there is no such gate; A call that returns an error changes nothing.");
        for (int what : new int[] {10, 17, 20, 27, 30, 37}) {
            dueAndNoChange(false, NOT_FOUND, 5, 0, what);
        }
        dueAndNoChange(true, NOT_FOUND, 5, 0, 12);
        sentence(12, "NOT_FOUND if there are not so many; A call that returns an error changes nothing.");
        dueAndNoChange(false, NOT_FOUND, 10, 1, 0);
        dueAndNoChange(false, NOT_FOUND, 10, 0, 10);
        dueAndNoChange(true, NOT_FOUND, 10, 256, 0);
        dueAndNoChange(true, NOT_FOUND, 10, MAX, 3);
        sentence(14, "NOT_FOUND if there is no such row; A call that returns an error changes nothing.");
        dueAndNoChange(false, NOT_FOUND, 12, -1);
        dueAndNoChange(false, NOT_FOUND, 12, 0);
        dueAndNoChange(true, NOT_FOUND, 12, MAX);
        sentence(15, "NOT_FOUND if it is late by none of these; A call that returns an error changes nothing.");
        dueAndNoChange(true, NOT_FOUND, 13);
        sentence(17, "NOT_FOUND if there is no such gate; A call that returns an error changes nothing.");
        dueAndNoChange(false, NOT_FOUND, 15, 0);
        dueAndNoChange(true, NOT_FOUND, 15, 2);
        dueAndNoChange(true, NOT_FOUND, 15, 7);
        sentence(22, "NOT_FOUND if the text has no fault; A call that returns an error changes nothing.");
        dueAndNoChange(false, NOT_FOUND, 20, 0);
        dueAndNoChange(false, NOT_FOUND, 20, 1);
    }

    // NOT_POSSIBLE and LIMIT_REACHED, and LIMIT_REACHED and NOT_FOUND, never apply to the same call
    private static void severalErrors() {
        sentence(2, "INVALID_ARGUMENT is returned rather than [..] LIMIT_REACHED");
        dueAndNoChange(true, INVALID, GATE, 1, 8, 6, 0, 0);
        dueAndNoChange(true, INVALID, GATE, 1, 8, 0, 16, 0);
        dueAndNoChange(true, INVALID, GATE, 1, 8, 0, 0, -1);
        dueAndNoChange(true, INVALID, GATE, 2, 8, 0, 0, 0);
        dueAndNoChange(true, INVALID, GATE, 0, 8, 0, 0, 0);
        sentence(3, "INVALID_ARGUMENT is returned rather than NOT_POSSIBLE");
        dueAndNoChange(false, INVALID, 1, 2);
        sentence(7, "INVALID_ARGUMENT is returned rather than [..] NOT_FOUND");
        dueAndNoChange(false, INVALID, 5, 2, 10);
        dueAndNoChange(false, INVALID, 5, 0, 18);
        sentence(12, "INVALID_ARGUMENT is returned rather than [..] NOT_FOUND");
        dueAndNoChange(false, INVALID, 10, 1, 4);
        dueAndNoChange(false, INVALID, 10, -1, 10);
        sentence(14, "INVALID_ARGUMENT is returned rather than [..] NOT_FOUND");
        dueAndNoChange(false, INVALID, 12, -2);
        sentence(17, "INVALID_ARGUMENT is returned rather than [..] NOT_FOUND");
        dueAndNoChange(false, INVALID, 15, 8);
        dueAndNoChange(false, INVALID, 15, -1);
        sentence(20, "INVALID_ARGUMENT is returned rather than [..] LIMIT_REACHED");
        dueAndNoChange(true, INVALID, 18, 31);
        dueAndNoChange(true, INVALID, 18, 127);
        sentence(22, "INVALID_ARGUMENT is returned rather than [..] NOT_FOUND");
        dueAndNoChange(false, INVALID, 20, 2);
        sentence(23, "INVALID_ARGUMENT is returned rather than NOT_POSSIBLE");
        dueAndNoChange(true, INVALID, 21, 2);
    }

    private static void questions() {
        int[][] calls = {{5, 0, 3}, {5, 0, 4}, {5, 0, 5}, {5, 1, 6}, {6, 1, 15, 3, 13}, {7, 0, 15, 3},
            {RUN, 0, -1, 16, 1}, {9, 1, 2}, {10, 1, 3}, {10, 2, 10}, {11}, {12, -1}, {14, 3}, {15, 0}, {15, 1},
            {16, 0}, {16, 1}, {16, 2}, {16, 3}, {20, 0}, {20, 1}};
        for (int[] call : calls) {
            sentence(call[0] + 2, "Nothing is promised beyond the answers and state changes described above");
            dueAndNoChange(true, answer(busy(), call), call);
            due(told(call) + " answers a number", answer(busy(), call) >= 0);
        }
    }
}
