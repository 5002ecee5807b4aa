/** How TickCircuits is used. Behind each call stands what it answers, and so prints. */
public final class Example {
    public static void main(String[] args) {
        TickCircuits x = new TickCircuits();

        // The circuit 0: each 1 of the input 0 turns the register 0 over, and the output is that register.
        System.out.println(x.gate(0, 0, 2, 2, 0));    // 1: a gate: the wire 6 is the wire 2 exclusive or the wire 0
        System.out.println(x.register(0, 0, 6, 0));   // 28: it was 2 times the next wire 14, plus the first bit 0
        System.out.println(x.output(0, 2));           // 14: the output wire was 14
        System.out.println(x.run(0, 5, 4, 1));        // 2: with the inputs 1, 1, 0, 0 the outputs are 0, 1, 0, 0

        // The circuit 1 is a copy at first: no row of inputs tells the two apart.
        System.out.println(x.copy(0));                // 1: the copy has one gate
        System.out.println(x.count(1));               // 1: no row tells them apart
        System.out.println(x.pairs());                // 2: the pairs of states 0, 0 and 1, 1 are come to

        // Then its output comes through one more register.
        System.out.println(x.register(1, 1, 2, 0));   // 28: as above
        System.out.println(x.output(1, 3));           // 2: the output wire was that of the register 0
        System.out.println(x.late());                 // 1: its output is late by one tick
        System.out.println(x.apart(-1));              // 2: two inputs tell the circuits apart, and no fewer
        System.out.println(x.apart(0));               // 1: the first one of them has the input 0
        System.out.println(x.apart(1));               // 0: the second one is any, and 0 the least
        System.out.println(x.apart(2));               // -1000004: NOT_FOUND, there is no third one
        System.out.println(x.circuitOf(1, 3));        // 15: the circuit 1 comes to the states 0, 1, 2 and 3

        // The last two changes are taken back.
        System.out.println(x.undo());                 // 3: of the history of four states three are left
        System.out.println(x.undo());                 // 2: and then two
        System.out.println(x.count(1));               // 1: the circuit 1 is the copy again

        // A circuit as a text: a gate, a register, and an output whose part does not end.
        for (char character : "053;r161;o3".toCharArray()) {
            x.type(character);
        }
        System.out.println(x.fault(0));               // 9: the fault is at the position 9,
        System.out.println(x.fault(1));               // 1: as the part there is not of its form
        System.out.println(x.read(1));                // -1000002: NOT_POSSIBLE, and nothing changes
        System.out.println(x.type(';'));              // 12: the text has twelve characters now
        System.out.println(x.fault(0));               // -1000004: NOT_FOUND, it has no fault
        System.out.println(x.read(1));                // 1: the circuit 1 is that of the text, with one gate
        System.out.println(x.circuitOf(1, 2));        // 2: its first state: the register 1 is 1
    }
}
