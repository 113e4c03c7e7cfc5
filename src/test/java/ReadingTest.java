/** Promises 9 to 15: register, memory, port, state, stored, line, sent. */
final class ReadingTest extends TestBase {
    private static final int[] FAR_OUT = {-1, 48, 256, Integer.MIN_VALUE, Integer.MAX_VALUE};

    public static void main(String[] args) {
        registers();
        memory();
        ports();
        portsReadWithoutEffects();
        portsAboveNineteen();
        lookingChangesNothing();
        outOfRangeChangesNothing();
        states();
        storeBytes();
        lineKeepsTheFirst();
        lineAndSentAtPower();
        end();
    }

    private static void registers() {
        TickController x = new TickController();
        for (int r = 0; r < 8; r++) {
            x.load(LDI, r, 100 + r);
        }
        x.run(8);
        for (int r = 0; r < 8; r++) {
            dueRegister("all registers", x, r, 100 + r);
        }
        due("register(8)", x.register(8), -1);
        for (int r : FAR_OUT) {
            due("register(" + r + ")", x.register(r), -1);
        }
    }

    private static void memory() {
        TickController x = machine(STX, 0, 0, DJNZ, 0, 0);
        x.run(2 * 2 * 256);
        for (int m = 0; m < 32; m++) {
            due("memory(" + m + ")", x.memory(m), 32 * (m == 0 ? 1 : 0) + m);
        }
        due("memory(32)", x.memory(32), -1);
        for (int m : FAR_OUT) {
            due("memory(" + m + ")", x.memory(m), -1);
        }
    }

    private static void ports() {
        TickController x = new TickController();
        due("port(19)", x.port(19), 0);
        due("port(20)", x.port(20), -1);
        due("port(31)", x.port(31), -1);
        for (int p : FAR_OUT) {
            due("port(" + p + ")", x.port(p), -1);
        }
    }

    private static void portsReadWithoutEffects() {
        TickController x = machine(IN, 0, SERIAL_CONTROL, IN, 1, SERIAL_CONTROL, IN, 2, SERIAL_DATA,
                IN, 3, SERIAL_CONTROL);
        x.receive(50);
        x.receive(51);
        for (int k = 0; k < 2; k++) {
            duePort("asked " + k, x, SERIAL_DATA, 50);
            duePort("asked " + k, x, SERIAL_CONTROL, 7);
        }
        x.run(4);
        dueRegister("IN of control with overrun", x, 0, 7);
        dueRegister("IN of control, overrun read", x, 1, 3);
        dueRegister("IN of data", x, 2, 50);
        dueRegister("IN of control, data read", x, 3, 1);
    }

    /** IN of 20 to 31 gives 0, but the call has no such ports. */
    private static void portsAboveNineteen() {
        TickController x = machine(LDI, 0, 9, IN, 0, 20, LDI, 1, 9, IN, 1, 31);
        pass(x, 4);
        dueRegister("IN of 20", x, 0, 0);
        dueRegister("IN of 31", x, 1, 0);
        for (int p = 20; p < 40; p++) {
            due("port(" + p + ")", x.port(p), -1);
        }
    }

    private static TickController inTheMiddleOfAll() {
        TickController x = machine(program(out(A_CONTROL, 1), out(SERIAL_DATA, 5), out(CONVERTER, 4),
                out(STORE_DATA, 6), out(OUTPUT, 7), out(WATCHDOG, 3), out(MASK, 255), code(PUSH, 7, 0, SLEEP, 0, 0)));
        pass(x, 20);
        x.receive(1);
        x.receive(2);
        x.pins(1);
        return x;
    }

    private static void lookingChangesNothing() {
        TickController x = inTheMiddleOfAll();
        String before = snapshot(x);
        dueSame("looked at once", x, before);
        TickController y = inTheMiddleOfAll();
        pass(x, 30);
        pass(y, 30);
        dueSame("one that was looked at, later", x, snapshot(y));
    }

    private static void outOfRangeChangesNothing() {
        TickController x = inTheMiddleOfAll();
        String before = snapshot(x);
        for (int k : FAR_OUT) {
            due("register(" + k + ")", x.register(k), -1);
            due("memory(" + k + ")", x.memory(k), -1);
            due("port(" + k + ")", x.port(k), -1);
            due("state(" + k + ")", x.state(k), -1);
            due("stored(" + k + ")", x.stored(k), -1);
            due("line(" + k + ")", x.line(k), -1);
        }
        dueSame("asked out of range", x, before);
    }

    private static void states() {
        TickController x = machine(program(out(OUTPUT, 7), out(SERIAL_CONTROL, 8),
                code(SHR, 0, 0, SEI, 0, 0, PUSH, 0, 0, SLEEP, 0, 0, LDI, 1, 1)));
        x.vector(4, 7);
        pass(x, 8);
        x.receive(1);
        pass(x, 3 + 1);
        int[] want = {8, Z, 2, ASLEEP, 0, 1, 12, 3};
        for (int what = 0; what <= 7; what++) {
            dueState("states", x, what, want[what]);
        }
        due("state(8)", x.state(8), -1);
        for (int what : FAR_OUT) {
            due("state(" + what + ")", x.state(what), -1);
        }
    }

    /** Stores 200 + k at each k, 15 first. */
    private static void storeBytes() {
        TickController x = machine(LDI, 0, 16, LDI, 1, 1, SUB, 0, 1, OUT, 0, STORE_ADDRESS, MOV, 3, 0, LDI, 2, 200,
                ADD, 3, 2, OUT, 3, STORE_DATA, IN, 4, STORE_CONTROL, SHR, 4, 0, JC, 0, 12, JMP, 0, 8, CMP, 0, 5,
                JZ, 0, 15, JMP, 0, 2, SLEEP, 0, 0);
        x.run(2000);
        dueState("16 stored", x, MODE, ASLEEP);
        for (int k = 0; k < 16; k++) {
            due("stored(" + k + ")", x.stored(k), 200 + k);
        }
        due("stored(16)", x.stored(16), -1);
        for (int k : FAR_OUT) {
            due("stored(" + k + ")", x.stored(k), -1);
        }
    }

    /** Sends 1, 2, 3 and so on, one in 10 cycles, of which the second to the ninth send. */
    private static TickController sender() {
        return machine(LDI, 1, 1, ADD, 0, 1, OUT, 0, SERIAL_DATA, LDI, 2, 3, DJNZ, 2, 4, JMP, 0, 1);
    }

    private static void lineKeepsTheFirst() {
        TickController x = sender();
        pass(x, 1);
        due("before any: line(0)", x.line(0), -1);
        due("before any: sent()", x.sent(), 0);
        for (int k = 0; k < 40; k++) {
            due("sent() before byte " + k, x.sent(), k);
            due("line of byte " + k + " before it is there", x.line(k), -1);
            pass(x, 10);
            due("sent() after byte " + k, x.sent(), k + 1);
            due("line(" + k + ")", x.line(k), k < 32 ? k + 1 : -1);
            due("line(" + (k + 1) + ") is not there yet", x.line(k + 1), -1);
        }
        due("line(0) in the end", x.line(0), 1);
        due("line(31) in the end", x.line(31), 32);
        due("line(32)", x.line(32), -1);
        for (int k : FAR_OUT) {
            due("line(" + k + ")", x.line(k), -1);
        }
    }

    private static void lineAndSentAtPower() {
        TickController x = sender();
        x.run(1 + 20);
        due("sent() before power", x.sent(), 2);
        x.power();
        due("sent() after power", x.sent(), 0);
        due("line(0) after power", x.line(0), -1);
        due("line(1) after power", x.line(1), -1);
        x.run(1 + 10);
        due("sent() anew", x.sent(), 1);
        due("line(1) anew", x.line(1), -1);
    }
}
