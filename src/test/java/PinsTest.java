/** Input pins with their interrupt, output pins with their edges. */
final class PinsTest extends TestBase {
    public static void main(String[] args) {
        inputPort();
        interruptEight();
        maskWrittenLater();
        maskZeroDisables();
        edgesByOut();
        edgesByTimers();
        edgesByBothOnOnePin();
        end();
    }

    private static void inputPort() {
        TickController x = machine(IN, 0, INPUT, IN, 1, INPUT);
        x.pins(0x5A);
        pass(x, 1);
        x.pins(0xA5);
        pass(x, 1);
        dueRegister("IN of the input pins", x, 0, 0x5A);
        dueRegister("IN of the input pins", x, 1, 0xA5);
    }

    private static void interruptEight() {
        TickController x = machine(program(out(MASK, 0x80), code(SEI, 0, 0, SLEEP, 0, 0)));
        x.vector(8, 20);
        pass(x, 10);
        x.pins(0x7F);
        pass(x, 10);
        dueState("pins beside the mask", x, TAKEN, 0);
        x.pins(0xFF);
        pass(x, 3);
        dueState("a pin of the mask", x, TAKEN, 1);
        dueState("a pin of the mask", x, PC, 20);
        duePort("not in the port of pending ones", x, PENDING, 0);
    }

    private static void maskWrittenLater() {
        TickController x = machine(program(code(SEI, 0, 0), out(MASK, 1), code(SLEEP, 0, 0)));
        x.pins(1);
        pass(x, 50);
        dueState("a change before the mask", x, TAKEN, 0);
    }

    /** It stays pending while the mask is 0, and is taken when any bit is in the mask again. */
    private static void maskZeroDisables() {
        TickController x = machine(program(out(MASK, 1), out(MASK, 0), code(SEI, 0, 0, LDI, 0, 1), out(MASK, 64),
                code(LDI, 0, 2)));
        pass(x, 2);
        due("pins(1)", x.pins(1), true);
        pass(x, 6);
        dueState("mask 0", x, TAKEN, 0);
        pass(x, 3);
        dueState("mask 64", x, TAKEN, 1);
        dueRegister("mask 64", x, 0, 1);
    }

    private static void edgesByOut() {
        TickController x = machine(program(out(OUTPUT, 0xFF), out(OUTPUT, 0xFF), out(OUTPUT, 0x0F),
                out(OUTPUT, 0xF0), out(OUTPUT, 0xF1)));
        int[] edges = {8, 8, 12, 20, 21};
        for (int e : edges) {
            pass(x, 2);
            dueState("OUT of output pins", x, EDGES, e);
        }
        duePort("OUT of output pins", x, OUTPUT, 0xF1);
    }

    private static void edgesByTimers() {
        TickController x = machine(program(out(A_CONTROL, 1 + 4 + 32), out(B_CONTROL, 1 + 4 + 32),
                code(SLEEP, 0, 0)));
        pass(x, 3);
        duePort("A alone", x, OUTPUT, 0);
        dueState("A alone", x, EDGES, 2);
        pass(x, 1);
        duePort("A and B", x, OUTPUT, 3);
        dueState("A and B", x, EDGES, 4);
        pass(x, 10);
        dueState("A and B", x, EDGES, 24);
    }

    /** OUT's effect comes before the timer's in the same cycle. */
    private static void edgesByBothOnOnePin() {
        TickController x = machine(program(code(LDI, 6, 0xFF), out(A_CONTROL, 1 + 4 + 32),
                code(OUT, 6, OUTPUT, SLEEP, 0, 0)));
        pass(x, 3);
        duePort("the timer's", x, OUTPUT, 1);
        pass(x, 1);
        duePort("OUT, then the timer's", x, OUTPUT, 0xFE);
        dueState("OUT, then the timer's", x, EDGES, 1 + 7 + 1);
    }
}
