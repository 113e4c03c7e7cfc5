/** What the tests share: the names of instructions and ports, and the counting of wrong answers. */
abstract class TestBase {
    static final int LDI = 0, MOV = 1, ADD = 2, SUB = 3, CMP = 4, AND = 5, XOR = 6, SHR = 7, LD = 8, ST = 9,
            LDX = 10, STX = 11, IN = 12, OUT = 13, JMP = 14, JZ = 15, JC = 16, CALL = 17, RET = 18, PUSH = 19,
            POP = 20, RETI = 21, SEI = 22, CLI = 23, SLEEP = 24, WDR = 25, DJNZ = 26;

    static final int A_COUNT = 0, A_CONTROL = 1, A_COMPARE = 2, B_COUNT = 3, B_CONTROL = 4, B_COMPARE = 5,
            SERIAL_DATA = 6, SERIAL_CONTROL = 7, DIVIDER = 8, CONVERTER = 9, RESULT = 10, PENDING = 11,
            OUTPUT = 12, INPUT = 13, WATCHDOG = 14, CLOCK = 15, STORE_ADDRESS = 16, STORE_DATA = 17,
            STORE_CONTROL = 18, MASK = 19;

    static final int PC = 0, FLAGS = 1, DEPTH = 2, MODE = 3, RESETS = 4, TAKEN = 5, TIME = 6, EDGES = 7;
    static final int RUNNING = 0, ASLEEP = 1, HALTED = 2;
    static final int Z = 1, C = 2, I = 4;

    private static int wrong = 0;

    static void due(String what, int got, int want) {
        if (got != want) {
            wrong++;
            System.out.println(what + " answered " + got + ", due is " + want);
        }
    }

    static void due(String what, boolean got, boolean want) {
        due(what, got ? 1 : 0, want ? 1 : 0);
    }

    /** All that can be asked of an object, as one text. */
    static String snapshot(TickController x) {
        StringBuilder all = new StringBuilder();
        for (int what = 0; what <= 7; what++) {
            all.append(" state").append(what).append('=').append(x.state(what));
        }
        for (int r = 0; r < 8; r++) {
            all.append(" r").append(r).append('=').append(x.register(r));
        }
        for (int m = 0; m < 32; m++) {
            all.append(" m").append(m).append('=').append(x.memory(m));
        }
        for (int p = 0; p <= 19; p++) {
            all.append(" p").append(p).append('=').append(x.port(p));
        }
        for (int k = 0; k < 16; k++) {
            all.append(" s").append(k).append('=').append(x.stored(k));
        }
        all.append(" sent=").append(x.sent());
        for (int k = 0; k < Math.min(x.sent(), 32); k++) {
            all.append(" l").append(k).append('=').append(x.line(k));
        }
        return all.toString();
    }

    /** A call that is refused, or only looks, leaves an object as it was. */
    static void dueSame(String when, TickController x, String want) {
        String got = snapshot(x);
        due(when + ": all as before" + (got.equals(want) ? "" : "\n  got " + got + "\n  due " + want),
                got.equals(want), true);
    }

    static void end() {
        if (wrong != 0) {
            System.exit(1);
        }
    }

    /** A new object with a program, three numbers an instruction. */
    static TickController machine(int... program) {
        TickController x = new TickController();
        for (int k = 0; k < program.length; k += 3) {
            x.load(program[k], program[k + 1], program[k + 2]);
        }
        return x;
    }

    /** Puts a value into a port through register 7: two cycles, and the port's cycle is the second. */
    static int[] out(int port, int value) {
        return new int[] {LDI, 7, value, OUT, 7, port};
    }

    /** One program out of several pieces. */
    static int[] program(int[]... pieces) {
        return java.util.Arrays.stream(pieces).flatMapToInt(java.util.Arrays::stream).toArray();
    }

    static int[] code(int... instructions) {
        return instructions;
    }

    /** The port of a timer's count (0 is A, 1 is B); control and compare are the two after it. */
    static int count(int timer) {
        return 3 * timer;
    }

    /** The bit in PENDING of the interrupt that comes when count and compare value become equal. */
    static int equalBit(int timer) {
        return timer == 0 ? 1 : 4;
    }

    static int overflowBit(int timer) {
        return timer == 0 ? 2 : 8;
    }

    /** Puts 1 into a port, then 2, with so many cycles between the two OUTs, and lets 100 cycles pass. */
    static TickController outTwice(int port, int between) {
        TickController x = machine(LDI, 0, 1, OUT, 0, port);
        for (int k = 0; k < between; k++) {
            x.load(LDI, 0, 2);
        }
        x.load(OUT, 0, port);
        x.load(SLEEP, 0, 0);
        pass(x, 100);
        return x;
    }

    /** Timers make 0 to 3 pending, serial 4 and 5, converter 6, store 7, pins 8; then k is enabled, and I = 1. */
    static TickController allPendingOneEnabled(int k) {
        int[] ports = {A_CONTROL, A_CONTROL, B_CONTROL, B_CONTROL, SERIAL_CONTROL, SERIAL_CONTROL, CONVERTER,
            STORE_CONTROL, MASK};
        int[] bits = {8, 16, 8, 16, 8, 16, 8, 8, 1};
        return machine(program(out(A_COUNT, 255), out(B_COUNT, 255), out(A_COMPARE, 1), out(B_COMPARE, 1),
                out(SERIAL_DATA, 1), out(CONVERTER, 4), out(STORE_DATA, 1), out(MASK, 1), out(A_CONTROL, 1),
                out(B_CONTROL, 1), code(DJNZ, 0, 20), out(MASK, 0), out(ports[k], bits[k]),
                code(SEI, 0, 0, JMP, 0, 26)));
    }

    /** 511 cycles of DJNZ, five instructions and the interrupt. */
    static void takeTheOne(TickController x) {
        pass(x, 20);
        x.pins(1);
        x.receive(1);
        pass(x, 511 + 5 + 3);
    }

    /** Lets n cycles pass, which must be exactly so many. */
    static void pass(TickController x, int n) {
        due("run(" + n + ")", x.run(n), n);
    }

    static void dueState(String when, TickController x, int what, int want) {
        String[] names = {"PC", "flags", "stack depth", "mode", "resets", "interrupts taken", "T", "edges"};
        due(when + ": " + names[what], x.state(what), want);
    }

    static void dueRegister(String when, TickController x, int r, int want) {
        due(when + ": register " + r, x.register(r), want);
    }

    static void duePort(String when, TickController x, int p, int want) {
        due(when + ": port " + p, x.port(p), want);
    }

    /** All that power makes, but for the program, vectors, store, analog values and input pins. */
    static void dueAsAtPower(String when, TickController x) {
        for (int what = 0; what <= 7; what++) {
            dueState(when, x, what, 0);
        }
        for (int r = 0; r < 8; r++) {
            dueRegister(when, x, r, 0);
        }
        for (int m = 0; m < 32; m++) {
            due(when + ": memory " + m, x.memory(m), 0);
        }
        duePortsAsAtPower(when, x);
        due(when + ": sent()", x.sent(), 0);
        due(when + ": line(0)", x.line(0), -1);
    }

    /** The ports that power and a reset by the watchdog make what they were; pins, T and the store's data go on. */
    static void duePortsAsAtPower(String when, TickController x) {
        for (int p = 0; p <= 19; p++) {
            if (p != OUTPUT && p != INPUT && p != CLOCK && p != STORE_DATA) {
                duePort(when, x, p, p == SERIAL_CONTROL || p == STORE_CONTROL ? 1 : 0);
            }
        }
    }
}
