/** Each sentence of DOC.md that names a boundary case of both circuits together: promises 12 to 19. */
public final class BothEdges extends Checks {
    private static final int[] ALLOWED_WHATS = {0, 1, 2, 3, 10, 11, 12, 265};

    public static void main(String[] args) {
        pairNumber();
        whatOfPair();
        pairInvalidFirst();
        noSuchTick();
        firstPair();
        orderByTicks();
        orderByRows();
        leastOfShortestRows();
        differingInputs();
        longestRow();
        pairCounts();
        apartIndex();
        apartNever();
        apartLength();
        apartLeast();
        apartShortest();
        lateTicks();
        lateFromTheTick();
        lateAheadOfTheTick();
        lateLeast();
        lateForAllRows();
        sameRegister();
        sameSets();
        sameInAllPairs();
        kindsGate();
        kindsOfNoGate();
        kindsOwn();
        kindsWithout();
        whatOfCount();
        countGates();
        countApart();
        countHistory();
        countText();
        undoEmpty();
        undoReturns();
        undoOldestDropped();
        undoEachChange();
        undoWholeStates();
        undoNoChange();
        undoNotTheText();
        finish(12, 19);
    }

    // ---- promise 12: pairOf

    private static void pairNumber() {
        sentence(12, "pair: 0 or more; INVALID_ARGUMENT if pair is negative; NOT_FOUND if there are not so many");
        int[] counts = {1, 2, 16, 240, 256};
        TickCircuits[] objects = {new TickCircuits(), reading("r0f0;", ""), reading(CHAIN, ""),
            reading(FREE_COUNTER, FIFTEEN), reading(CHAIN, "r010;r120;r230;r340;")};
        for (int i = 0; i < counts.length; i++) {
            TickCircuits x = objects[i];
            due("pairs()", x.pairs(), counts[i]);
            for (int what : new int[] {0, 1, 2, 3}) {
                String said = " of " + counts[i] + ", what " + what;
                due("the pair -1" + said, x.pairOf(-1, what), INVALID);
                due("the pair MIN_VALUE" + said, x.pairOf(Integer.MIN_VALUE, what), INVALID);
                due("the last pair" + said, x.pairOf(counts[i] - 1, what) >= 0);
                due("a pair too many" + said, x.pairOf(counts[i], what), NOT_FOUND);
                due("two pairs too many" + said, x.pairOf(counts[i] + 1, what), NOT_FOUND);
                due("the pair MAX_VALUE" + said, x.pairOf(Integer.MAX_VALUE, what), NOT_FOUND);
            }
        }
        TickCircuits x = objects[4];
        for (int pair : new int[] {257, 300, 512, 65536, 1 << 30}) {
            due("the pair " + pair + " of 256", x.pairOf(pair, 0), NOT_FOUND);
        }
    }

    private static void whatOfPair() {
        sentence(12, "INVALID_ARGUMENT if [..] what is none of these (k is 0 to 255)");
        TickCircuits x = reading(FREE_COUNTER, FIFTEEN);
        for (int what = 4; what < 10; what++) {
            due("pairOf(239, " + what + ")", x.pairOf(239, what), INVALID);
        }
        for (int what : new int[] {-10, -2, -1, 266, 267, 300, 1034}) {
            due("pairOf(239, " + what + ")", x.pairOf(239, what), INVALID);
        }
        for (int what : FAR) {
            due("pairOf(239, " + what + ")", x.pairOf(239, what), INVALID);
        }
        due("pairOf(239, 10)", x.pairOf(239, 10), 0);
        due("pairOf(239, 265)", x.pairOf(239, 265), NOT_FOUND);
    }

    private static void pairInvalidFirst() {
        sentence(12, "INVALID_ARGUMENT is returned rather than [..] NOT_FOUND");
        TickCircuits x = new TickCircuits();
        for (int what : new int[] {-1, 4, 9, 266}) {
            due("pairOf(1, " + what + ")", x.pairOf(1, what), INVALID);
            due("pairOf(-1, " + what + ")", x.pairOf(-1, what), INVALID);
        }
        for (int what : ALLOWED_WHATS) {
            due("pairOf(1, " + what + ")", x.pairOf(1, what), NOT_FOUND);
            due("pairOf(-1, " + what + ")", x.pairOf(-1, what), INVALID);
        }
    }

    private static void noSuchTick() {
        sentence(12, "NOT_FOUND if [..] the row has not so many ticks");
        TickCircuits x = reading(FREE_COUNTER, FIFTEEN);
        for (int pair : new int[] {0, 1, 2, 16, 238, 239}) {
            due("ticks of " + pair, x.pairOf(pair, 2), pair);
            due("the tick ahead of the last one of " + pair, x.pairOf(pair, 8 + pair), pair < 2 ? INVALID : 0);
            due("the last tick of " + pair, x.pairOf(pair, 9 + pair), pair < 1 ? INVALID : 0);
            due("a tick too many of " + pair, x.pairOf(pair, 10 + pair), NOT_FOUND);
            due("two ticks too many of " + pair, x.pairOf(pair, 11 + pair), NOT_FOUND);
            due("the tick 255 of " + pair, x.pairOf(pair, 265), NOT_FOUND);
        }
    }

    private static void firstPair() {
        sentence(12, "In the first tick the registers have their first bits.");
        TickCircuits x = reading("r0e1;r301;", "r1e1;r211;");
        due("the state of the circuit 0", x.pairOf(0, 0), 9);
        due("the state of the circuit 1", x.pairOf(0, 1), 6);
        due("ticks", x.pairOf(0, 2), 0);
        due("inputs in a tick", x.pairOf(0, 10), NOT_FOUND);
        for (int inputs = 0; inputs < 4; inputs++) {
            due("the state of the circuit 0", x.pairOf(1 + inputs, 0), inputs % 2 * 8);
            due("the state of the circuit 1", x.pairOf(1 + inputs, 1), inputs / 2 * 4);
            due("ticks", x.pairOf(1 + inputs, 2), 1);
            due("inputs in the tick", x.pairOf(1 + inputs, 10), inputs);
        }
        due("no more", x.pairOf(5, 0), NOT_FOUND);
    }

    private static void orderByTicks() {
        sentence(12, "are in order: by the number of ticks");
        TickCircuits x = reading(CHAIN, "r010;r120;r230;r340;");
        int ticks = 0;
        for (int pair = 0; pair < 256; pair++) {
            int ahead = ticks;
            ticks = x.pairOf(pair, 2);
            due("ticks of " + pair, ticks >= ahead);
        }
        due("ticks of the last one", ticks, 4);
    }

    private static void orderByRows() {
        sentence(12, "then by the row of inputs that leads to them first (rows are compared input by input");
        // what the first inputs were stands in the second registers: the first inputs count before the second ones
        TickCircuits x = reading("r000;r120;r2f0;r340;", "r010;r120;");
        for (int first = 0; first < 4; first++) {
            for (int second = 0; second < 4; second++) {
                int pair = 5 + 4 * first + second;
                due("ticks of " + pair, x.pairOf(pair, 2), 2);
                due("the first inputs of " + pair, x.pairOf(pair, 10), first);
                due("the second inputs of " + pair, x.pairOf(pair, 11), second);
                due("the state of 0 of " + pair, x.pairOf(pair, 0), 12 | second & 1 | (first & 1) << 1);
                due("the state of 1 of " + pair, x.pairOf(pair, 1), second >> 1 | first & 2);
            }
        }
        due("pairs()", x.pairs(), 21);
    }

    private static void leastOfShortestRows() {
        sentence(12, "the first row of a pair is the least one of its shortest ones");
        // the inputs 1 and 2 lead to the same, so do 0 and 3
        TickCircuits x = reading("201;r060;", "");
        due("pairs()", x.pairs(), 2);
        due("the inputs of the second one", x.pairOf(1, 10), 1);
        // the second register is 1 behind two ticks of the inputs 0, but at once by the inputs 3
        x = reading("001;162;r0f0;r170;", "");
        due("pairs()", x.pairs(), 3);
        due("the state by the inputs 0", x.pairOf(1, 0), 1);
        due("the state by the inputs 3", x.pairOf(2, 0), 3);
        due("its ticks", x.pairOf(2, 2), 1);
        due("its inputs", x.pairOf(2, 10), 3);
        // two ticks of the inputs 0 or 1, 0: the row begins with the lesser one
        x = reading("r0f0;r120;r200;", "r0f0;r120;");
        due("behind two ticks", x.pairOf(3, 0), 3);
        due("the first inputs", x.pairOf(3, 10), 0);
        due("the second inputs", x.pairOf(3, 11), 0);
    }

    private static void differingInputs() {
        sentence(12, "3: inputs by which the outputs differ in the next tick, as a set");
        due("none", new TickCircuits().pairOf(0, 3), 0);
        due("all", reading("of;", "").pairOf(0, 3), 15);
        due("all, the other way", reading("", "of;").pairOf(0, 3), 15);
        due("none of ones", reading("of;", "of;").pairOf(0, 3), 0);
        due("0 alone", reading("101;56e;o7;", "").pairOf(0, 3), 1);
        due("1 alone", reading("51e;006;o7;", "").pairOf(0, 3), 2);
        due("2 alone", reading("50e;016;o7;", "").pairOf(0, 3), 4);
        due("3 alone", reading("001;o6;", "").pairOf(0, 3), 8);
        due("1 and 2", reading("o0;", "o1;").pairOf(0, 3), 6);
        TickCircuits x = reading("r000;o2;", "r010;o2;");
        due("of the first pair", x.pairOf(0, 3), 0);
        due("of the pair by the inputs 1", x.pairOf(1, 3), 15);
        due("of the pair by the inputs 2", x.pairOf(2, 3), 15);
        due("of the last pair", x.pairOf(3, 3), 0);
    }

    private static void longestRow() {
        sentence(12, "10 plus k: the inputs in the tick k of its first row, from 0");
        // the counter goes on with the input 0 alone, the circuit 1 goes on always
        TickCircuits x = reading(COUNTER, FIFTEEN);
        due("pairs()", x.pairs(), 240);
        int last = 239;
        int ticks = x.pairOf(last, 2);
        int zero = 0;
        for (int tick = 0; tick < ticks; tick++) {
            zero += x.pairOf(last, 10 + tick);
        }
        due("ones in its row lead to the state of 0", zero % 16, x.pairOf(last, 0));
        due("its last tick", x.pairOf(last, 9 + ticks) >= 0);
        due("a tick too many", x.pairOf(last, 10 + ticks), NOT_FOUND);
    }

    // ---- promise 13: pairs

    private static void pairCounts() {
        sentence(13, "Counts the pairs that are come to.");
        due("the first one alone", new TickCircuits().pairs(), 1);
        due("two", reading("r0f0;", "r0f0;").pairs(), 2);
        due("both go on at once", reading(FREE_COUNTER, FREE_COUNTER).pairs(), 16);
        due("one goes on alone", reading(FREE_COUNTER, "").pairs(), 16);
        due("the other one goes on alone", reading("", FREE_COUNTER).pairs(), 16);
        due("the same inputs for both", reading(CHAIN, CHAIN).pairs(), 16);
        due("16 and 15", reading(FREE_COUNTER, FIFTEEN).pairs(), 240);
        due("all", reading(CHAIN, "r010;r120;r230;r340;").pairs(), 256);
    }

    // ---- promise 14: apart

    private static void apartIndex() {
        sentence(14, "INVALID_ARGUMENT if index is below -1; NOT_FOUND if [..] it has not so many inputs");
        TickCircuits x = reading("051;" + CHAIN + "o6;", "");
        due("apart(-1)", x.apart(-1), 5);
        due("apart(0)", x.apart(0), 1);
        due("apart(4)", x.apart(4), 2);
        for (int index : new int[] {5, 6, 255, 256, 1000001, Integer.MAX_VALUE}) {
            due("apart(" + index + ")", x.apart(index), NOT_FOUND);
        }
        for (int index : new int[] {-2, -3, -1000001, Integer.MIN_VALUE}) {
            due("apart(" + index + ")", x.apart(index), INVALID);
        }
    }

    private static void apartNever() {
        sentence(14, "NOT_FOUND if there is no such row");
        TickCircuits[] objects = {new TickCircuits(), reading(CHAIN + "o5;", CHAIN + "o5;"),
            reading("001;o6;", "301;566;o7;"), reading(FREE_COUNTER + "of;", FIFTEEN + "of;"),
            reading("r021;o2;", "of;"), reading("of;", "r3f1;o5;")};
        for (TickCircuits x : objects) {
            for (int index : new int[] {-1, 0, 1, 255, Integer.MAX_VALUE}) {
                due("apart(" + index + ")", x.apart(index), NOT_FOUND);
            }
            due("count(1)", x.count(1), 1);
        }
        sentence(14, "INVALID_ARGUMENT is returned rather than [..] NOT_FOUND");
        due("apart(-2)", objects[0].apart(-2), INVALID);
        due("apart(MIN_VALUE)", objects[0].apart(Integer.MIN_VALUE), INVALID);
    }

    private static void apartLength() {
        sentence(14, "-1: how many inputs it has; otherwise its inputs, 0 for those of the first tick, and so on");
        // the counter is seen in its state 15 alone: 15 ticks ahead of it, and the one in which it is seen
        for (int first = 0; first < 16; first++) {
            TickCircuits x = reading(FREE_COUNTER + "oc;", "");
            for (int r = 0; r < 4; r++) {
                x.register(0, r, r < 2 ? 6 + r : 7 + r, first >> r & 1);
            }
            x.register(0, 2, 9, first >> 2 & 1);
            x.register(0, 3, 11, first >> 3);
            due("apart(-1) from the state " + first, x.apart(-1), 16 - first);
            due("the first inputs", x.apart(0), 0);
            due("the last inputs", x.apart(15 - first), 0);
            due("inputs too many", x.apart(16 - first), NOT_FOUND);
        }
    }

    private static void apartLeast() {
        sentence(14, "The least row is the shortest one, of several the least one.");
        String[] alone = {"101;56e;o7;", "51e;006;o7;", "50e;016;o7;", "001;o6;"};
        for (int inputs = 0; inputs < 4; inputs++) {
            TickCircuits x = reading(alone[inputs], "");
            due("by the inputs " + inputs + " alone", x.apart(0), inputs);
            due("its length", x.apart(-1), 1);
        }
        due("by 1, 2 and 3", reading("101;o6;", "").apart(0), 1);
        due("by 2 and 3", reading("o1;", "").apart(0), 2);
        due("by all", reading("", "of;").apart(0), 0);
        // 1 first and then 2, or 2 first and then 1: the row that begins with the lesser one
        TickCircuits x = reading("r000;r110;021;030;167;o8;", "");
        due("two inputs", x.apart(-1), 2);
        due("the first ones", x.apart(0), 1);
        due("the second ones", x.apart(1), 2);
    }

    private static void apartShortest() {
        sentence(14, "in the tick of its last input the outputs differ, and in no tick ahead of it");
        TickCircuits x = reading("r0e1;o2;", "");
        due("they differ in the first tick alone", x.apart(-1), 1);
        due("the first inputs", x.apart(0), 0);
        due("no second ones", x.apart(1), NOT_FOUND);
        // by the inputs 3 at once, by the inputs 0 one tick on: the shorter row, not the lesser one
        x = reading("001;r0f0;162;o7;", "");
        due("the shorter one", x.apart(-1), 1);
        due("its inputs", x.apart(0), 3);
        x = reading("r0f0;o2;", "");
        due("from the second tick on", x.apart(-1), 2);
        due("its first inputs", x.apart(0), 0);
        due("its last inputs", x.apart(1), 0);
    }

    // ---- promise 15: late

    private static void lateTicks() {
        sentence(15, "The circuit 1 is late by k ticks (0 to 4); NOT_FOUND if it is late by none of these");
        // the same counters, the circuit 1 some ticks behind, or ahead, as it wraps around
        for (int ticks = 0; ticks < 16; ticks++) {
            TickCircuits x = reading(FREE_COUNTER + "oc;", FREE_COUNTER + "oc;");
            int first = -ticks & 15;
            int[] next = {6, 7, 9, 11};
            for (int r = 0; r < 4; r++) {
                x.register(1, r, next[r], first >> r & 1);
            }
            due("late() by " + ticks, x.late(), ticks <= 4 ? ticks : NOT_FOUND);
        }
        // by an input: none of them, one of the registers, all of them, and one more in the circuit 0
        TickCircuits x = reading("o0;", CHAIN + "o0;");
        due("late()", x.late(), 0);
        for (int r = 0; r < 4; r++) {
            x.output(1, 2 + r);
            due("late() by register " + r, x.late(), r + 1);
        }
        due("ahead by one", reading("r000;o2;", "o0;").late(), NOT_FOUND);
        due("a new one", new TickCircuits().late(), 0);
    }

    private static void lateFromTheTick() {
        sentence(15, "the output of the circuit 1 in each tick t of k or more is that of the circuit 0 in the tick t - k");
        // the circuit 0 is 1 in its first tick alone, so the circuit 1 has to be 1 in the tick k
        String[] chains = {"r0e1;o2;", "r0e1;r120;o3;", "r0e1;r120;r230;o4;", "r0e1;r120;r230;r340;o5;"};
        for (int ticks = 0; ticks < 4; ticks++) {
            due("1 in the tick " + ticks, reading("r0e1;o2;", chains[ticks]).late(), ticks);
        }
        due("never 1", reading("r0e1;o2;", "").late(), NOT_FOUND);
        // the register 2 is 1 from the tick 4 on, the last gate from the tick 5 on
        TickCircuits x = reading("of;", "52e;132;023;148;024;15a;r060;r170;r290;r3b0;o4;");
        due("0 in the ticks 0 to 3, 1 from the tick 4 on", x.late(), 4);
        x.output(1, 11);
        due("0 in the tick 4, too", x.late(), NOT_FOUND);
        // the circuit 0 is 0 in its first tick alone
        due("0 in the tick 0", reading("r0f0;o2;", "r0f0;o2;").late(), 0);
        due("0 in the ticks 0 and 1", reading("r0f0;o2;", "r0f0;r120;o3;").late(), 1);
        due("0 in the ticks 0 to 3", reading("r0f0;o2;", "r0f0;r120;r230;r340;o5;").late(), 3);
        due("never 0", reading("r0f0;o2;", "of;").late(), NOT_FOUND);
    }

    private static void lateAheadOfTheTick() {
        sentence(15, "in each tick t of k or more");
        // what the circuit 1 says ahead of the tick k is free: all first bits of the registers
        for (int bits = 0; bits < 16; bits++) {
            TickCircuits x = reading("o1;", "r010;r120;r230;r340;o5;");
            for (int r = 0; r < 4; r++) {
                x.register(1, r, 1 + r, bits >> r & 1);
            }
            if ((bits & 1) == 1 || bits == 0) {
                due("first bits " + bits, x.late(), 4);
            }
            for (int r = 0; r < 4; r++) {
                x.output(1, 2 + r);
                due("output of register " + r + ", first bits " + bits, x.late(), 1 + r);
            }
        }
    }

    private static void lateLeast() {
        sentence(15, "Finds the least number of ticks by which the circuit 1 is late.");
        due("zeros, late by each", new TickCircuits().late(), 0);
        due("ones, late by each", reading("of;", "of;").late(), 0);
        String[] chains = {"r0f0;o2;", "r0f0;r120;o3;", "r0f0;r120;r230;o4;", "r0f0;r120;r230;r340;o5;"};
        for (int ticks = 1; ticks <= 4; ticks++) {
            due("ones from the tick " + ticks + " on", reading("of;", chains[ticks - 1]).late(), ticks);
        }
        due("by turns, late by 1 and 3", reading("52e;r060;o2;", "52e;r061;o2;").late(), 1);
        due("by turns, late by 0, 2 and 4", reading("52e;r060;o2;", "52e;r060;o2;").late(), 0);
        // 1 in each fourth tick: the circuit 1 is 2 or 3 ticks behind
        String four = "r050;r120;r230;r340;";
        due("by fours, late by 2", reading("r051;r120;r230;r340;o2;", four.replace("r230", "r231") + "o2;").late(), 2);
        due("by fours, late by 3", reading("r051;r120;r230;r340;o2;", four.replace("r120", "r121") + "o2;").late(), 3);
        due("by fours, late by 0 and 4", reading("r051;r120;r230;r340;o2;", "r051;r120;r230;r340;o2;").late(), 0);
    }

    private static void lateForAllRows() {
        sentence(15, "if for all rows of inputs");
        // one pair of inputs alone makes a difference, or one tick far on
        String[] alone = {"101;56e;r070;o2;", "51e;006;r070;o2;", "50e;016;r070;o2;", "001;r060;o2;"};
        for (String one : alone) {
            due("by inputs alone", reading("", one).late(), NOT_FOUND);
            due("by inputs alone", reading(one, "").late(), NOT_FOUND);
            due("both", reading(one, one).late(), 0);
        }
        due("in the tick 15 alone", reading(FREE_COUNTER + "oc;", "").late(), NOT_FOUND);
        due("in the tick 15 alone", reading("", FREE_COUNTER + "oc;").late(), NOT_FOUND);
        // all four outputs that are waited for may be of each kind
        TickCircuits x = reading("001;o6;", "001;r060;r120;r230;r340;o5;");
        due("late by four registers", x.late(), 4);
        x.gate(1, 0, 2, 0, 1);
        due("of another kind", x.late(), NOT_FOUND);
        // states that were come to ahead of a change are not asked any more
        x = reading(CHAIN + "o5;", CHAIN + "o5;");
        due("chains", x.late(), 0);
        x.register(0, 0, 2, 0);
        x.output(0, 2);
        x.output(1, 14);
        due("a register that stays 0, behind a change", x.late(), 0);
    }

    // ---- promise 16: same

    private static void sameRegister() {
        sentence(16, "register: 0 to 3; INVALID_ARGUMENT if register is out of range");
        TickCircuits x = new TickCircuits();
        due("same(-1)", x.same(-1), INVALID);
        due("same(4)", x.same(4), INVALID);
        for (int register : FAR) {
            due("same(" + register + ")", x.same(register), INVALID);
        }
        due("same(0)", x.same(0), 15);
        due("same(3)", x.same(3), 15);
    }

    private static void sameSets() {
        sentence(16, "for a register of the circuit 0 the registers of the circuit 1");
        TickCircuits x = reading(CHAIN, "r300;r250;r140;r030;");
        for (int r = 0; r < 4; r++) {
            due("same(" + r + ")", x.same(r), 8 >> r);
        }
        x = reading("r0f1;r1e0;r2f0;r300;", "r0f1;r1f1;r2e0;r3e1;");
        due("ones", x.same(0), 3);
        due("zeros", x.same(1), 4);
        due("0 and then 1", x.same(2), 0);
        due("the input 0", x.same(3), 0);
        x = reading("r0f1;", "r0f1;r1f1;r2f1;r3f1;");
        due("all", x.same(0), 15);
        due("none", x.same(1), 0);
    }

    private static void sameInAllPairs() {
        sentence(16, "that have the same bit in all pairs that are come to");
        TickCircuits x = reading("r000;", "r001;");
        due("not in the first pair", x.same(0), 0);
        // the circuit 1 has 1 four ticks on alone
        x = reading("", "r0f0;r120;r230;r340;");
        due("not behind the first tick", x.same(0), 0);
        x = reading("r3e0;", "520;r0e0;r1f0;r220;r330;");
        due("not behind two ticks", x.same(0), 1 | 4);
        x = reading(FREE_COUNTER, FREE_COUNTER.replace("r3b0", "r3c0"));
        due("not in the last pair but one", x.same(3), 0);
        due("in all of them", x.same(2), 4);
        // a difference in the last of 240 pairs
        x = reading(FREE_COUNTER, FIFTEEN);
        for (int r = 0; r < 4; r++) {
            due("in none of many pairs", x.same(r), 0);
        }
        x = reading("r001;", "r001;");
        due("a pair that is not come to", x.same(0), 1);
        // pairs that were come to ahead of a change do not count any more
        x = reading(CHAIN, "r010;r120;r230;r340;");
        due("in none of all pairs", x.same(0), 0);
        x.register(0, 0, 14, 0);
        x.register(1, 0, 14, 0);
        for (int r = 0; r < 4; r++) {
            due("in all of one pair, behind a change", x.same(r), 15);
        }
    }

    // ---- promise 17: kinds

    private static void kindsGate() {
        sentence(17, "gate: 0 to 7; INVALID_ARGUMENT if gate is out of range");
        for (int gates = 0; gates <= 8; gates += 8) {
            TickCircuits x = withGates(0, gates);
            due("kinds(-1) of " + gates, x.kinds(-1), INVALID);
            due("kinds(8) of " + gates, x.kinds(8), INVALID);
            due("kinds(9) of " + gates, x.kinds(9), INVALID);
            for (int gate : FAR) {
                due("kinds(" + gate + ") of " + gates, x.kinds(gate), INVALID);
            }
        }
    }

    private static void kindsOfNoGate() {
        sentence(17, "NOT_FOUND if there is no such gate");
        for (int gates = 0; gates <= 8; gates++) {
            TickCircuits x = withGates(0, gates);
            TickCircuits other = withGates(1, gates);
            for (int gate = 0; gate < 8; gate++) {
                due("kinds(" + gate + ") of " + gates, x.kinds(gate), gate < gates ? 63 : NOT_FOUND);
                due("kinds(" + gate + ") of the circuit 1's", other.kinds(gate), NOT_FOUND);
            }
        }
        TickCircuits x = withGates(0, 2);
        x.dropGate(0);
        due("kinds(1) of a dropped one", x.kinds(1), NOT_FOUND);
    }

    private static void kindsOwn() {
        sentence(17, "its own one included");
        for (int kind = 0; kind < 6; kind++) {
            String text = kind + "01;o6;";
            due("the kind " + kind, reading(text, text).kinds(0), 1 << kind);
            // told apart as it is: then its own one is none of them
            due("a kind apart from " + kind, reading((kind + 1) % 6 + "01;o6;", text).kinds(0), 1 << kind);
        }
        due("none", reading("001;o0;", "o1;").kinds(0), 0);
        due("all", reading("001;o0;", "o0;").kinds(0), 63);
        String eight = "001;166;277;388;499;5aa;0bb;2c0;od;";
        TickCircuits x = reading(eight, eight);
        for (int gate = 0; gate < 8; gate++) {
            int own = x.circuitOf(0, 10 + gate);
            due("the own kind of the gate " + gate, (x.kinds(gate) & 1 << own) != 0);
        }
        due("the last gate, whose first wire is always 0", x.kinds(7), 1 << 1 | 1 << 2);
    }

    private static void kindsWithout() {
        sentence(17, "that a gate of the circuit 0 could have without the circuits being told apart");
        due("both wires the same", reading("400;o6;", "o0;").kinds(0), 1 | 2 | 16);
        due("both wires the same, not", reading("400;o6;", "50e;o6;").kinds(0), 8 | 32);
        due("a constant", reading("4ee;o6;", "").kinds(0), 1 | 2 | 4 | 16);
        due("a constant 1", reading("4ff;o6;", "of;").kinds(0), 1 | 2 | 16);
        // seen through registers, 16 ticks on: the counter's last gate
        TickCircuits x = reading(FREE_COUNTER + "oc;", FREE_COUNTER + "oc;");
        due("a counter's last state", x.kinds(6), 1);
        x.output(0, 14);
        x.output(1, 14);
        due("no output", x.kinds(6), 63);
        due("its registers are not seen", x.kinds(0), 63);
        due("the circuit stays", x.circuitOf(0, 16), 0);
        due("the circuit stays", x.circuitOf(0, 10), 5);
    }

    // ---- promise 18: count

    private static void whatOfCount() {
        sentence(18, "INVALID_ARGUMENT if what is out of range");
        TickCircuits x = new TickCircuits();
        due("count(-1)", x.count(-1), INVALID);
        due("count(4)", x.count(4), INVALID);
        for (int what : FAR) {
            due("count(" + what + ")", x.count(what), INVALID);
        }
        due("count(0)", x.count(0), 0);
        due("count(3)", x.count(3), 0);
    }

    private static void countGates() {
        sentence(18, "0: gates of both circuits");
        TickCircuits x = new TickCircuits();
        for (int gates = 0; gates < 16; gates++) {
            due("count(0)", x.count(0), gates);
            x.gate(gates / 8, gates % 8, 0, 0, 0);
        }
        due("count(0), full", x.count(0), 16);
        x.gate(1, 8, 0, 0, 0);
        due("count(0), behind a refused one", x.count(0), 16);
        x.dropGate(0);
        due("count(0), one dropped", x.count(0), 15);
        x.copy(0);
        due("count(0), copied", x.count(0), 14);
    }

    private static void countApart() {
        sentence(18, "1: 1 if no row tells the circuits apart, otherwise 0");
        due("a new one", new TickCircuits().count(1), 1);
        due("in the first tick", reading("of;", "").count(1), 0);
        due("by the inputs 3 alone", reading("001;o6;", "").count(1), 0);
        due("in the tick 15", reading(FREE_COUNTER + "oc;", "").count(1), 0);
        due("other circuits", reading("001;o6;", "301;566;o7;").count(1), 1);
        due("differences that are not come to", reading("r020;o2;", "").count(1), 1);
        due("differences in the state 0, that is not come to", reading("r021;o2;", "of;").count(1), 1);
    }

    private static void countHistory() {
        sentence(18, "2: states in the history; A history of at most 4 states is kept");
        TickCircuits x = new TickCircuits();
        for (int changes = 0; changes < 20; changes++) {
            due("count(2) behind " + changes + " changes", x.count(2), Math.min(changes, 4));
            x.output(changes % 2, 0);
        }
        for (int left = 3; left >= 0; left--) {
            x.undo();
            due("count(2)", x.count(2), left);
        }
        x.undo();
        due("count(2)", x.count(2), 0);
    }

    private static void countText() {
        sentence(18, "3: the length of the text");
        TickCircuits x = new TickCircuits();
        for (int length = 0; length < 80; length++) {
            due("count(3)", x.count(3), length);
            x.type(32);
        }
        due("count(3), full", x.count(3), 80);
        x.type(32);
        due("count(3), behind a refused one", x.count(3), 80);
        x.clearText();
        due("count(3), empty", x.count(3), 0);
    }

    // ---- promise 19: undo

    private static void undoEmpty() {
        sentence(19, "NOT_POSSIBLE if it is empty");
        TickCircuits x = new TickCircuits();
        due("undo()", x.undo(), NOT_POSSIBLE);
        x.output(0, 1);
        due("undo()", x.undo(), 0);
        due("undo()", x.undo(), NOT_POSSIBLE);
        due("undo()", x.undo(), NOT_POSSIBLE);
        due("circuitOf(0, 1)", x.circuitOf(0, 1), 14);
        x.output(0, 2);
        due("undo()", x.undo(), 0);
    }

    private static void undoReturns() {
        sentence(19, "Returns the number of states that are left in the history");
        for (int changes = 1; changes <= 6; changes++) {
            TickCircuits x = new TickCircuits();
            for (int change = 0; change < changes; change++) {
                x.register(0, change % 4, change, 1);
            }
            for (int left = Math.min(changes, 4) - 1; left >= 0; left--) {
                due("undo()", x.undo(), left);
                due("count(2)", x.count(2), left);
            }
            due("undo()", x.undo(), NOT_POSSIBLE);
        }
    }

    private static void undoOldestDropped() {
        sentence(19, "if there are 5 states then, the oldest one is dropped");
        for (int changes = 4; changes <= 7; changes++) {
            TickCircuits x = new TickCircuits();
            for (int change = 0; change < changes; change++) {
                x.gate(0, change, change % 6, change, 15);
            }
            for (int undone = 1; undone <= 4; undone++) {
                due("undo()", x.undo(), 4 - undone);
                due("gates", x.circuitOf(0, 0), changes - undone);
            }
            due("undo()", x.undo(), NOT_POSSIBLE);
            due("gates", x.circuitOf(0, 0), changes - 4);
        }
        // undo makes room again: no state is dropped ahead of the fifth one
        TickCircuits x = new TickCircuits();
        for (int wire = 0; wire < 4; wire++) {
            x.output(1, wire);
        }
        x.undo();
        x.output(1, 9);
        for (int wire = 2; wire >= 0; wire--) {
            due("undo()", x.undo(), wire + 1);
            due("circuitOf(1, 1)", x.circuitOf(1, 1), wire);
        }
        due("undo()", x.undo(), 0);
        due("circuitOf(1, 1)", x.circuitOf(1, 1), 14);
    }

    private static void undoEachChange() {
        sentence(19, "The changes are the calls of gate, dropGate, register, output, copy and read that return no error.");
        int[][] changes = {{0, 1, 0, 3, 2, 3}, {0, 1, 1, 2, 4, 6}, {1, 1}, {2, 1, 3, 6, 0}, {3, 1, 5}, {4, 1}, {4, 0},
            {21, 1}, {21, 0}};
        for (int[] change : changes) {
            TickCircuits x = reading("1ef;r3f1;of;", "001;r060;r371;o6;");
            TickCircuits y = reading("1ef;r3f1;of;", "001;r060;r371;o6;");
            due(told(change), answer(x, change) >= 0);
            due("count(2) behind " + told(change), x.count(2), 3);
            due("undo() of " + told(change), x.undo(), 2);
            dueSame(told(change), x, y);
        }
        // a change that sets what was set already is one, too
        TickCircuits x = new TickCircuits();
        x.register(0, 0, 14, 0);
        x.output(0, 14);
        x.copy(0);
        x.read(0);
        due("count(2)", x.count(2), 4);
    }

    private static void dueSame(String said, TickCircuits x, TickCircuits y) {
        for (int circuit = 0; circuit < 2; circuit++) {
            for (int what = 0; what < 40; what++) {
                due("circuitOf(.., " + what + ") behind " + said, x.circuitOf(circuit, what), y.circuitOf(circuit, what));
            }
            for (int r = 0; r < 4; r++) {
                due("register " + r + " behind " + said, x.register(circuit, r, 14, 0), y.register(circuit, r, 14, 0));
            }
        }
    }

    private static void undoWholeStates() {
        sentence(19, "each change records everything before it but the text");
        for (int undone = 1; undone <= 4; undone++) {
            TickCircuits x = readInTurn(6);
            for (int i = 1; i <= undone; i++) {
                due("undo()", x.undo(), 4 - i);
            }
            dueSame(undone + " times undo()", x, readInTurn(6 - undone));
        }
    }

    /** The circuits by turns from texts of 8 gates, each of which differs from the others in all parts. */
    private static TickCircuits readInTurn(int texts) {
        TickCircuits x = new TickCircuits();
        for (int i = 0; i < texts; i++) {
            StringBuilder text = new StringBuilder("o").append(i).append(';');
            for (int gate = 0; gate < 8; gate++) {
                text.append((gate + i) % 6).append((2 * gate + i) % 6).append((gate + 5 * i) % 6).append(';');
            }
            for (int r = 0; r < 4; r++) {
                text.append('r').append(r).append((r + i) % 6).append(i / 2 % 2).append(';');
            }
            typeAll(x, text.toString());
            due("read", x.read(i % 2), 8);
            x.clearText();
        }
        return x;
    }

    private static void undoNoChange() {
        sentence(19, "The changes are the calls [..] that return no error.");
        TickCircuits x = reading("001;r060;o6;", "");
        typeAll(x, "zz");
        int[][] calls = {{0, 0, 2, 0, 0, 0}, {1, 1}, {2, 0, 4, 0, 0}, {3, 0, 16}, {4, 2}, {21, 0}, {21, 2}, {18, 'o'},
            {18, 31}, {19}, {5, 0, 3}, {6, 0, 0, 0, 0}, {7, 0, 0, 0}, {8, 0, 0, 16, 0}, {9, 0, 0}, {10, 0, 0}, {11},
            {12, -1}, {13}, {14, 0}, {15, 0}, {16, 1}, {20, 0}};
        for (int[] call : calls) {
            answer(x, call);
            due("count(2) behind " + told(call), x.count(2), 2);
        }
        due("undo()", x.undo(), 1);
        due("undo() is none of them", x.count(2), 1);
        due("undo()", x.undo(), 0);
        due("circuitOf(0, 0)", x.circuitOf(0, 0), 0);
    }

    private static void undoNotTheText() {
        sentence(19, "each change records everything before it but the text");
        TickCircuits x = new TickCircuits();
        typeAll(x, "o5;");
        x.read(0);
        x.clearText();
        typeAll(x, "o6;o7;");
        x.output(1, 3);
        typeAll(x, "z");
        due("undo()", x.undo(), 1);
        due("count(3)", x.count(3), 7);
        due("fault(0)", x.fault(0), 3);
        due("fault(1)", x.fault(1), 4);
        due("undo()", x.undo(), 0);
        due("count(3)", x.count(3), 7);
        due("circuitOf(0, 1)", x.circuitOf(0, 1), 14);
        due("clearText()", x.clearText(), 7);
        due("undo() behind it", x.undo(), NOT_POSSIBLE);
    }
}
