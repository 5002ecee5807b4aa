/** Each sentence of DOC.md that names a boundary case of the texts: promises 20 to 23. */
public final class TextEdges extends Checks {
    private static final String EIGHT = "001;061;071;081;091;0a1;0b1;0c1;";
    /** The longest text without a fault. */
    private static final String LONGEST = EIGHT + "od;r0d1;r1d1;r2d1;r3d1;";
    private static final String WIRES = "0123456789abcdef";

    public static void main(String[] args) {
        typeRange();
        typeReturns();
        typeLimit();
        clearReturns();
        clearWhole();
        whatOfFault();
        noFault();
        faultOfEmptyText();
        partsEnd();
        partsAreEmpty();
        formOfGate();
        formOfRegister();
        formOfOutput();
        formOfWires();
        otherCharacters();
        tooManyGates();
        wiresNotAllowed();
        toldBefore();
        firstReason();
        firstPart();
        longestTexts();
        readCircuit();
        readOfFault();
        readReturns();
        readNotTold();
        readTold();
        readTheTextStays();
        readOfEmptyText();
        finish(20, 23);
    }

    /** The text's fault is at a position and has a reason; a reason 0 stands for no fault. */
    private static void faultIs(String text, int position, int reason) {
        TickCircuits x = typed(text);
        due("fault(0) of " + text, x.fault(0), reason == 0 ? NOT_FOUND : position);
        due("fault(1) of " + text, x.fault(1), reason == 0 ? NOT_FOUND : reason);
        due("read of " + text, reason == 0 ? x.read(1) >= 0 : x.read(1) == NOT_POSSIBLE);
    }

    // ---- promise 20: type

    private static void typeRange() {
        sentence(20, "character: 32 to 126; INVALID_ARGUMENT if character is out of range");
        TickCircuits x = new TickCircuits();
        for (int character : new int[] {-33, -1, 0, 10, 31, 127, 128, 160, 255, 256, 288, 65536 + 48}) {
            due("type(" + character + ")", x.type(character), INVALID);
        }
        for (int character : FAR) {
            due("type(" + character + ")", x.type(character), INVALID);
        }
        due("count(3)", x.count(3), 0);
        for (int character = 32; character <= 126; character++) {
            TickCircuits y = new TickCircuits();
            due("type(" + character + ")", y.type(character), 1);
        }
    }

    private static void typeReturns() {
        sentence(20, "Appends a character to the text. Returns the length of the text");
        TickCircuits x = new TickCircuits();
        String text = "o1;o0;";
        for (int i = 0; i < text.length(); i++) {
            due("type", x.type(text.charAt(i)), i + 1);
            due("count(3)", x.count(3), i + 1);
        }
        due("behind what was there, not ahead of it", x.fault(0), 3);
    }

    private static void typeLimit() {
        sentence(20, "LIMIT_REACHED if it has 80 characters");
        TickCircuits x = new TickCircuits();
        for (int length = 1; length <= 80; length++) {
            due("type", x.type(length <= LONGEST.length() ? LONGEST.charAt(length - 1) : 'o'), length);
        }
        for (int character = 32; character <= 126; character++) {
            due("type(" + character + ") of 80", x.type(character), LIMIT);
        }
        due("count(3)", x.count(3), 80);
        due("the text is as it was", x.fault(0), LONGEST.length());
        due("clearText()", x.clearText(), 80);
        due("type, of a text that was full", x.type('o'), 1);
        sentence(20, "INVALID_ARGUMENT is returned rather than [..] LIMIT_REACHED");
        x = typed("o".repeat(80));
        for (int character : new int[] {-1, 31, 127, Integer.MIN_VALUE, Integer.MAX_VALUE}) {
            due("type(" + character + ") of 80", x.type(character), INVALID);
        }
    }

    // ---- promise 21: clearText

    private static void clearReturns() {
        sentence(21, "Empties the text. Returns the length it had.");
        TickCircuits x = new TickCircuits();
        due("empty at first", x.clearText(), 0);
        due("empty again", x.clearText(), 0);
        for (int length : new int[] {1, 2, 79, 80}) {
            typeAll(x, "o".repeat(length));
            due("a length", x.clearText(), length);
            due("count(3)", x.count(3), 0);
            due("empty again", x.clearText(), 0);
        }
        typeAll(x, "o".repeat(81));
        due("one too many", x.clearText(), 80);
    }

    private static void clearWhole() {
        sentence(21, "Empties the text.");
        TickCircuits x = typed("o1;r2f1;zzzz");
        x.clearText();
        due("fault(0)", x.fault(0), NOT_FOUND);
        due("read(0) of nothing", x.read(0), 0);
        due("circuitOf(0, 1)", x.circuitOf(0, 1), 14);
        // what stood there does not end the new text
        typeAll(x, "o1");
        due("fault(0) of o1", x.fault(0), 0);
        due("fault(1) of o1", x.fault(1), 1);
        typeAll(x, ";");
        due("fault(0) of o1;", x.fault(0), NOT_FOUND);
        due("the history is not touched", x.count(2), 1);
    }

    // ---- promise 22: fault

    private static void whatOfFault() {
        sentence(22, "INVALID_ARGUMENT if what is out of range");
        TickCircuits x = typed("o1;o1;");
        due("fault(-1)", x.fault(-1), INVALID);
        due("fault(2)", x.fault(2), INVALID);
        for (int what : FAR) {
            due("fault(" + what + ")", x.fault(what), INVALID);
        }
        due("fault(0)", x.fault(0), 3);
        due("fault(1)", x.fault(1), 4);
        sentence(22, "INVALID_ARGUMENT is returned rather than [..] NOT_FOUND");
        due("fault(-1) of no fault", typed("o1;").fault(-1), INVALID);
        due("fault(2) of no fault", typed("o1;").fault(2), INVALID);
        due("fault(-1) of the empty text", new TickCircuits().fault(-1), INVALID);
        due("fault(2) of the empty text", new TickCircuits().fault(2), INVALID);
    }

    private static void noFault() {
        sentence(22, "NOT_FOUND if the text has no fault");
        for (String text : new String[] {"o0;", "000;", "5ff;", "r000;", "r3f1;", LONGEST, EIGHT}) {
            faultIs(text, 0, 0);
        }
    }

    private static void faultOfEmptyText() {
        sentence(22, "NOT_FOUND if the text has no fault (also if it is empty)");
        faultIs("", 0, 0);
        TickCircuits x = typed("o");
        due("fault(0) of o", x.fault(0), 0);
        x.clearText();
        due("fault(0) of a text that was emptied", x.fault(0), NOT_FOUND);
        due("fault(1) of a text that was emptied", x.fault(1), NOT_FOUND);
    }

    private static void partsEnd() {
        sentence(22, "a row of parts, each followed by \";\"; 1 it is not of this form, its \";\" included");
        for (String part : new String[] {"001", "5ff", "r000", "r3f1", "o0", "of"}) {
            for (int length = 1; length <= part.length(); length++) {
                faultIs(part.substring(0, length), 0, 1);
                faultIs(part.substring(0, length) + (length < part.length() ? ";" : ":"), 0, 1);
                faultIs("401;" + part.substring(0, length), 4, 1);
            }
            faultIs(part + ";", 0, 0);
            faultIs(part + "0;", 0, 1);
            faultIs(part + " ;", 0, 1);
            faultIs(part + part + ";", 0, 1);
        }
    }

    private static void partsAreEmpty() {
        sentence(22, "the position, from 0, of the first character of the first part that is not possible");
        faultIs(";", 0, 1);
        faultIs(";o0;", 0, 1);
        faultIs("o0;;", 3, 1);
        faultIs("o0;;001;", 3, 1);
        faultIs("001;o0;;", 7, 1);
        faultIs(LONGEST + ";", LONGEST.length(), 1);
    }

    private static void formOfGate() {
        sentence(22, "a digit 0 to 5 and two wires (a gate; the first one is the gate 0)");
        for (char kind = ' '; kind <= '~'; kind++) {
            if (kind != 'o' && kind != 'r') {
                faultIs(kind + "01;", 0, kind >= '0' && kind <= '5' ? 0 : 1);
            }
        }
        faultIs("01;", 0, 1);
        faultIs("0;", 0, 1);
        faultIs("0011;", 0, 1);
    }

    private static void formOfRegister() {
        sentence(22, "\"r\" a digit 0 to 3, a wire and a digit 0 or 1");
        for (char c = ' '; c <= '~'; c++) {
            faultIs("r" + c + "00;", 0, c >= '0' && c <= '3' ? 0 : 1);
            faultIs("r00" + c + ";", 0, c == '0' || c == '1' ? 0 : 1);
        }
        faultIs("r0f;", 0, 1);
        faultIs("r;", 0, 1);
        faultIs("R000;", 0, 1);
    }

    private static void formOfOutput() {
        sentence(22, "or \"o\" a wire (the output)");
        faultIs("o;", 0, 1);
        faultIs("o00;", 0, 1);
        faultIs("O0;", 0, 1);
        for (int wire = 0; wire < 16; wire++) {
            faultIs("o" + WIRES.charAt(wire) + ";", 0, 0);
        }
    }

    private static void formOfWires() {
        sentence(22, "Wires are told as 0 to 9 and a to f (10 to 15).");
        for (char c = ' '; c <= '~'; c++) {
            int wire = WIRES.indexOf(c);
            faultIs("o" + c + ";", 0, wire < 0 ? 1 : 0);
            faultIs("r0" + c + "0;", 0, wire < 0 ? 1 : 0);
            int reason = wire < 0 ? 1 : wire < 6 || wire > 13 ? 0 : 3;
            faultIs("4" + c + "0;", 0, reason);
            faultIs("40" + c + ";", 0, reason);
        }
    }

    private static void otherCharacters() {
        sentence(22, "its reason is the first of these: 1 it is not of this form");
        for (char c = ' '; c <= '~'; c++) {
            faultIs("o1;" + c, 3, 1);
            faultIs("o1" + c, 0, c == ';' ? 0 : 1);
            faultIs("r010" + c, 0, c == ';' ? 0 : 1);
            faultIs("401" + c, 0, c == ';' ? 0 : 1);
        }
    }

    private static void tooManyGates() {
        sentence(22, "2 there are 8 gates already");
        for (int gates = 0; gates <= 8; gates++) {
            String ahead = EIGHT.substring(0, 4 * gates);
            faultIs(ahead + "501;", 4 * gates, gates < 8 ? 0 : 2);
            faultIs(ahead + "od;501;", 4 * gates + 3, gates < 8 ? 0 : 2);
        }
        faultIs(EIGHT, 0, 0);
        faultIs(EIGHT + "5fe;5fe;", 32, 2);
        // the gates of the text count, not those of the circuits
        TickCircuits x = withGates(0, 8);
        typeAll(x, "401;");
        due("fault(0) with full circuits", x.fault(0), NOT_FOUND);
        due("read(0) with full circuits", x.read(0), 1);
    }

    private static void wiresNotAllowed() {
        sentence(22, "3 a wire of a gate is not allowed");
        for (int gate = 0; gate < 8; gate++) {
            String ahead = EIGHT.substring(0, 4 * gate);
            for (int wire = 0; wire < 16; wire++) {
                int reason = wire < 6 + gate || wire > 13 ? 0 : 3;
                faultIs(ahead + "0" + WIRES.charAt(wire) + "0;", 4 * gate, reason);
                faultIs(ahead + "50" + WIRES.charAt(wire) + ";", 4 * gate, reason);
            }
        }
        // registers and the output may have each wire, also one of no gate
        for (int wire = 0; wire < 16; wire++) {
            faultIs("o" + WIRES.charAt(wire) + ";r3" + WIRES.charAt(wire) + "0;", 0, 0);
        }
        // gates that come later in the text do not count
        faultIs("o7;060;001;", 3, 3);
    }

    private static void toldBefore() {
        sentence(22, "4 this register, or the output, was told before");
        for (int r = 0; r < 4; r++) {
            faultIs("r" + r + "01;r" + r + "01;", 5, 4);
            faultIs("r" + r + "01;o0;001;r" + r + "e0;", 12, 4);
            for (int other = 0; other < 4; other++) {
                faultIs("r" + r + "e0;r" + other + "00;", 5, r == other ? 4 : 0);
            }
            faultIs("o0;r" + r + "01;", 0, 0);
            faultIs("r" + r + "01;o0;", 0, 0);
        }
        faultIs("o0;o0;", 3, 4);
        faultIs("oe;o0;", 3, 4);
        faultIs("r000;r100;r200;r300;o0;o1;", 23, 4);
        faultIs("r000;r100;r200;r300;o0;r300;", 23, 4);
    }

    private static void firstReason() {
        sentence(22, "its reason is the first of these");
        faultIs(EIGHT + "60f;", 32, 1);
        faultIs(EIGHT + "0gg;", 32, 1);
        faultIs(EIGHT + "0dd", 32, 1);
        faultIs("066", 0, 1);
        faultIs("660;", 0, 1);
        faultIs("06g;", 0, 1);
        faultIs("o0;o0", 3, 1);
        faultIs("o0;og;", 3, 1);
        faultIs("r000;r002;", 5, 1);
        faultIs("r000;r000", 5, 1);
        faultIs("r000;r0g0;", 5, 1);
        // the wires 6 and 7 are allowed for the gates that there are; a ninth one may have all
        faultIs(EIGHT + "0dd;", 32, 2);
        faultIs("066;", 0, 3);
        faultIs("067;", 0, 3);
    }

    private static void firstPart() {
        sentence(22, "the first part that is not possible");
        faultIs("o0;o1;z;066;", 3, 4);
        faultIs("066;o0;o0;", 0, 3);
        faultIs("z;066;", 0, 1);
        faultIs("001;z;066;", 4, 1);
        faultIs("001;076;z;", 4, 3);
        faultIs(EIGHT + "001;z", 32, 2);
        faultIs(EIGHT + "o0;001;o0;", 35, 2);
    }

    private static void longestTexts() {
        sentence(22, "There is a text of at most 80 characters");
        faultIs(LONGEST, 0, 0);
        int length = LONGEST.length();
        faultIs(LONGEST + "o", length, 1);
        faultIs(LONGEST + "o0;", length, 4);
        faultIs(LONGEST + "0dd;", length, 2);
        faultIs(LONGEST + "r3d1;".repeat(5), length, 4);
        faultIs(LONGEST + " ".repeat(80 - length), length, 1);
        faultIs("o".repeat(80), 0, 1);
        faultIs(";".repeat(80), 0, 1);
        // the 80 characters are kept, the 81st one is refused
        faultIs("o0;".repeat(26) + "zz;", 3, 4);
    }

    // ---- promise 23: read

    private static void readCircuit() {
        sentence(23, "circuit: 0 or 1; INVALID_ARGUMENT if circuit is out of range");
        TickCircuits x = typed("001;");
        due("read(-1)", x.read(-1), INVALID);
        due("read(2)", x.read(2), INVALID);
        for (int circuit : FAR) {
            due("read(" + circuit + ")", x.read(circuit), INVALID);
        }
        due("count(0)", x.count(0), 0);
        due("count(2)", x.count(2), 0);
        due("read(1)", x.read(1), 1);
        due("circuitOf(0, 0)", x.circuitOf(0, 0), 0);
        due("read(0)", x.read(0), 1);
        due("circuitOf(0, 0)", x.circuitOf(0, 0), 1);
        sentence(23, "INVALID_ARGUMENT is returned rather than NOT_POSSIBLE");
        due("read(-1) of a fault", typed("z").read(-1), INVALID);
        due("read(2) of a fault", typed("z").read(2), INVALID);
    }

    private static void readOfFault() {
        sentence(23, "NOT_POSSIBLE if the text has a fault");
        for (String text : new String[] {"z", ";", "o", "001", EIGHT + "001;", "066;", "o0;o0;", "r3f1;of;001;r3f1;"}) {
            for (int circuit = 0; circuit < 2; circuit++) {
                TickCircuits x = typed(text);
                due("read(" + circuit + ") of " + text, x.read(circuit), NOT_POSSIBLE);
                due("count(0)", x.count(0), 0);
                due("count(2)", x.count(2), 0);
                due("circuitOf(" + circuit + ", 1)", x.circuitOf(circuit, 1), 14);
                due("circuitOf(" + circuit + ", 2)", x.circuitOf(circuit, 2), 0);
                due("count(3)", x.count(3), text.length());
            }
        }
    }

    private static void readReturns() {
        sentence(23, "Returns how many gates it has then");
        for (int gates = 0; gates <= 8; gates++) {
            for (int before = 0; before <= 8; before += 4) {
                TickCircuits x = withGates(1, before);
                typeAll(x, EIGHT.substring(0, 4 * gates) + "o0;");
                due("read(1) over " + before + " gates", x.read(1), gates);
                due("circuitOf(1, 0)", x.circuitOf(1, 0), gates);
                due("circuitOf(0, 0)", x.circuitOf(0, 0), 0);
                due("a gate too many", x.circuitOf(1, 10 + gates), gates < 8 ? NOT_FOUND : INVALID);
            }
        }
    }

    private static void readNotTold() {
        sentence(23, "Registers and the output that are not told are as at first.");
        for (int told = 0; told < 5; told++) {
            TickCircuits x = reading("", "5ff;r0f1;r1f1;r2f1;r3f1;of;");
            typeAll(x, told < 4 ? "r" + told + "01;" : "o1;");
            due("read(1)", x.read(1), 0);
            due("circuitOf(1, 1)", x.circuitOf(1, 1), told < 4 ? 14 : 1);
            for (int r = 0; r < 4; r++) {
                due("register " + r, x.register(1, r, 0, 0), r == told ? 1 : 28);
            }
        }
    }

    private static void readTold() {
        sentence(23, "Makes a circuit that of the text");
        TickCircuits x = typed("0ef;15f;26e;375;48f;59e;3a0;2be;");
        due("read(0)", x.read(0), 8);
        String[] wires = {"ef", "5f", "6e", "75", "8f", "9e", "a0", "be"};
        int[] kinds = {0, 1, 2, 3, 4, 5, 3, 2};
        for (int gate = 0; gate < 8; gate++) {
            due("kind of " + gate, x.circuitOf(0, 10 + gate), kinds[gate]);
            due("first wire of " + gate, x.circuitOf(0, 20 + gate), WIRES.indexOf(wires[gate].charAt(0)));
            due("second wire of " + gate, x.circuitOf(0, 30 + gate), WIRES.indexOf(wires[gate].charAt(1)));
        }
        for (int wire = 0; wire < 16; wire++) {
            x.clearText();
            typeAll(x, "o" + WIRES.charAt(wire) + ";r2" + WIRES.charAt(wire) + wire % 2 + ";");
            due("read(1)", x.read(1), 0);
            due("output wire", x.circuitOf(1, 1), wire);
            due("register 2", x.register(1, 2, 0, 0), 2 * wire + wire % 2);
        }
    }

    private static void readTheTextStays() {
        sentence(23, "that of the text, which stays");
        TickCircuits x = typed("001;o6;");
        due("read(0)", x.read(0), 1);
        due("count(3)", x.count(3), 7);
        due("read(1)", x.read(1), 1);
        due("read(1) again", x.read(1), 1);
        due("count(1)", x.count(1), 1);
        due("count(2): each is a change", x.count(2), 3);
        typeAll(x, "o6;");
        due("the text goes on", x.fault(0), 7);
        due("the circuit that was read stays", x.circuitOf(0, 1), 6);
        due("clearText()", x.clearText(), 10);
        due("the circuit that was read stays", x.circuitOf(0, 0), 1);
    }

    private static void readOfEmptyText() {
        sentence(23, "There is a text of at most 80 characters, initially empty. As a circuit it is a row of parts");
        for (int circuit = 0; circuit < 2; circuit++) {
            TickCircuits x = reading("001;r0f1;of;", "001;r0f1;of;");
            due("read of the empty text", x.read(circuit), 0);
            due("its gates", x.circuitOf(circuit, 0), 0);
            due("its output wire", x.circuitOf(circuit, 1), 14);
            due("its first state", x.circuitOf(circuit, 2), 0);
            due("its register 0", x.register(circuit, 0, 0, 0), 28);
            due("gates of the other one", x.circuitOf(1 - circuit, 0), 1);
            due("output wire of the other one", x.circuitOf(1 - circuit, 1), 15);
        }
    }
}
