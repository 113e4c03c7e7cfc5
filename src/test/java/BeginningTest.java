/** Promises 1 to 4: a new object, load, vector, power. */
final class BeginningTest extends TestBase {
    public static void main(String[] args) {
        newObjectIsAllZero();
        newObjectHasNoProgram();
        newObjectHasVectorsZero();
        loadAnswersNumbers();
        loadRefusesWrongOperations();
        loadRefusesTheFortyNinth();
        loadGoesOnAfterRunning();
        vectorRanges();
        refusedVectorChangesNothing();
        everyVectorIsItsOwn();
        powerBeginsAnew();
        powerKeepsWhatStays();
        powerEndsWhatIsUnderWay();
        powerForgetsResets();
        powerWakesFromHalt();
        end();
    }

    private static void newObjectIsAllZero() {
        TickController x = new TickController();
        dueAsAtPower("new", x);
        duePort("new", x, OUTPUT, 0);
        duePort("new", x, INPUT, 0);
        duePort("new", x, CLOCK, 0);
        for (int k = 0; k < 16; k++) {
            due("new: stored(" + k + ")", x.stored(k), 0);
        }
    }

    private static void newObjectHasNoProgram() {
        TickController x = new TickController();
        dueState("no program, before a run", x, MODE, RUNNING);
        due("no program: run(5)", x.run(5), 0);
        dueState("no program, after a run", x, MODE, HALTED);
        dueState("no program, after a run", x, PC, 0);
    }

    private static void newObjectHasVectorsZero() {
        for (int k = 0; k <= 8; k++) {
            TickController x = allPendingOneEnabled(k);
            takeTheOne(x);
            dueState("vector " + k + " of a new object", x, PC, 0);
            dueState("vector " + k + " of a new object", x, TAKEN, 1);
        }
    }

    /** Timers make 0 to 3 pending, serial 4 and 5, converter 6, store 7, pins 8; then k is enabled, and I = 1. */
    private static TickController allPendingOneEnabled(int k) {
        int[] ports = {A_CONTROL, A_CONTROL, B_CONTROL, B_CONTROL, SERIAL_CONTROL, SERIAL_CONTROL, CONVERTER,
            STORE_CONTROL, MASK};
        int[] bits = {8, 16, 8, 16, 8, 16, 8, 8, 1};
        return machine(program(out(A_COUNT, 255), out(B_COUNT, 255), out(A_COMPARE, 1), out(B_COMPARE, 1),
                out(SERIAL_DATA, 1), out(CONVERTER, 4), out(STORE_DATA, 1), out(MASK, 1), out(A_CONTROL, 1),
                out(B_CONTROL, 1), code(DJNZ, 0, 20), out(MASK, 0), out(ports[k], bits[k]),
                code(SEI, 0, 0, JMP, 0, 26)));
    }

    /** 511 cycles of DJNZ, five instructions and the interrupt. */
    private static void takeTheOne(TickController x) {
        pass(x, 20);
        x.pins(1);
        x.receive(1);
        pass(x, 511 + 5 + 3);
    }

    private static void loadAnswersNumbers() {
        TickController x = new TickController();
        for (int op = 0; op <= 26; op++) {
            due("load of operation " + op, x.load(op, 0, 0), op);
        }
    }

    private static void loadRefusesWrongOperations() {
        TickController x = new TickController();
        int[] wrongOnes = {-1, 27, 28, 255, 256, Integer.MIN_VALUE, Integer.MAX_VALUE};
        for (int op : wrongOnes) {
            due("load(" + op + ", 0, 0)", x.load(op, 0, 0), -1);
        }
        due("first load after refused ones", x.load(LDI, 0, 7), 0);
        x.run(1);
        dueRegister("first load after refused ones", x, 0, 7);
        due("a run over refused ones", x.run(1), 0);
    }

    private static void loadRefusesTheFortyNinth() {
        TickController x = new TickController();
        for (int k = 0; k < 48; k++) {
            due("load number " + k, x.load(LDI, 0, k), k);
        }
        due("load of the 49th", x.load(LDI, 0, 99), -1);
        due("load of a 49th wrong one", x.load(27, 0, 0), -1);
        due("run through 48", x.run(100), 48);
        dueRegister("48 instructions", x, 0, 47);
        dueState("48 instructions", x, PC, 48);
    }

    private static void loadGoesOnAfterRunning() {
        TickController x = machine(LDI, 0, 1);
        pass(x, 1);
        due("load after a run", x.load(LDI, 0, 2), 1);
        pass(x, 1);
        dueRegister("load after a run", x, 0, 2);
    }

    private static void vectorRanges() {
        TickController x = new TickController();
        for (int k = 0; k <= 8; k++) {
            due("vector(" + k + ", 0)", x.vector(k, 0), true);
            due("vector(" + k + ", 47)", x.vector(k, 47), true);
        }
        int[][] wrongOnes = {{-1, 0}, {9, 0}, {0, -1}, {0, 48}, {8, 48}, {9, 48}, {Integer.MAX_VALUE, 1},
            {Integer.MIN_VALUE, 1}, {1, Integer.MAX_VALUE}, {1, Integer.MIN_VALUE}};
        for (int[] w : wrongOnes) {
            due("vector(" + w[0] + ", " + w[1] + ")", x.vector(w[0], w[1]), false);
        }
    }

    private static void refusedVectorChangesNothing() {
        TickController x = allPendingOneEnabled(4);
        x.vector(4, 30);
        x.vector(4, 48);
        x.vector(4, -1);
        takeTheOne(x);
        dueState("refused vector", x, PC, 30);
    }

    private static void everyVectorIsItsOwn() {
        for (int k = 0; k <= 8; k++) {
            TickController x = allPendingOneEnabled(k);
            for (int v = 0; v <= 8; v++) {
                x.vector(v, 30 + v);
            }
            takeTheOne(x);
            dueState("interrupt " + k, x, PC, 30 + k);
            dueState("interrupt " + k, x, TAKEN, 1);
        }
    }

    /** A machine with next to nothing as it was at power; it sleeps from T = 1073 on. */
    private static TickController busyMachine() {
        TickController x = machine(program(
                out(A_COUNT, 5), out(A_COMPARE, 9), out(A_CONTROL, 1), out(B_COUNT, 6), out(B_COMPARE, 20),
                out(B_CONTROL, 1), out(DIVIDER, 1), out(SERIAL_DATA, 77), out(OUTPUT, 5), out(CONVERTER, 6),
                out(STORE_ADDRESS, 3), out(STORE_DATA, 44), out(STORE_CONTROL, 8), out(SERIAL_CONTROL, 24),
                out(MASK, 255), out(WATCHDOG, 7), code(ST, 7, 31, ST, 7, 0, MOV, 0, 7, LDI, 6, 1, SHR, 6, 0,
                PUSH, 7, 0, SEI, 0, 0, DJNZ, 1, 39, SEI, 0, 0, SLEEP, 0, 0)));
        for (int k = 0; k <= 8; k++) {
            x.vector(k, 39);
        }
        return x;
    }

    private static void powerBeginsAnew() {
        TickController x = busyMachine();
        pass(x, 1200);
        x.receive(12);
        x.receive(13);
        int[] states = {42, Z + C + I, 3, ASLEEP, 0, 2, 1200, 2};
        for (int what = 0; what <= 7; what++) {
            dueState("before power", x, what, states[what]);
        }
        due("before power: sent", x.sent(), 1);
        due("before power: memory 31", x.memory(31), 7);
        due("before power: memory 0", x.memory(0), 7);
        dueRegister("before power", x, 0, 7);
        x.power();
        dueAsAtPower("power again", x);
        duePort("power again", x, OUTPUT, 0);
        duePort("power again", x, CLOCK, 0);
    }

    private static void powerKeepsWhatStays() {
        TickController x = busyMachine();
        pass(x, 1200);
        x.analog(2, 200);
        x.pins(170);
        x.power();
        duePort("power again", x, INPUT, 170);
        due("power again: stored(3)", x.stored(3), 44);
        due("power again: load", x.load(LDI, 0, 0), 42);
        pass(x, 1200);
        duePort("power again, program anew", x, RESULT, 200);
        due("power again, program anew: line(0)", x.line(0), 77);
        due("power again, program anew: sent()", x.sent(), 1);
        x.receive(1);
        pass(x, 3);
        dueState("power again, vector kept", x, PC, 39);
        dueState("power again, vector kept", x, TAKEN, 3);
    }

    private static void powerEndsWhatIsUnderWay() {
        TickController x = machine(program(out(SERIAL_DATA, 1), out(STORE_DATA, 9), out(CONVERTER, 4),
                code(SLEEP, 0, 0)));
        x.analog(0, 3);
        pass(x, 7);
        x.power();
        dueAsAtPower("power while all are at work", x);
        pass(x, 8);
        due("sent a cycle before its time", x.sent(), 0);
        pass(x, 1);
        due("sent", x.sent(), 1);
        pass(x, 42 - 9);
        due("stored a cycle before its time", x.stored(0), 0);
        pass(x, 1);
        due("stored", x.stored(0), 9);
        pass(x, 56 - 43);
        duePort("a cycle before its time", x, RESULT, 0);
        pass(x, 1);
        duePort("converted", x, RESULT, 3);
    }

    private static void powerForgetsResets() {
        TickController x = machine(program(out(WATCHDOG, 1), code(SLEEP, 0, 0)));
        pass(x, 40);
        dueState("before power", x, RESETS, 1);
        x.power();
        dueAsAtPower("power after a reset", x);
    }

    private static void powerWakesFromHalt() {
        TickController x = machine(LDI, 0, 3);
        due("run to the end", x.run(10), 1);
        dueState("at the end", x, MODE, HALTED);
        x.load(LDI, 1, 4);
        due("halted for good", x.run(10), 0);
        x.power();
        due("run after power", x.run(10), 2);
        dueRegister("run after power", x, 1, 4);
    }
}
