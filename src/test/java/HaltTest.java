/** The halts. Where the document is silent: what halts takes no cycle, and PC stays at it. */
final class HaltTest extends TestBase {
    private static final int FULL = 16;
    private static final int FULL_WITH_INTERRUPTS = 1 + FULL * 4 - 1 + 2 + 2 + 1;

    public static void main(String[] args) {
        noInstructionThere();
        noProgramAtAll();
        endOfAFullProgram();
        everyJumpToNowhere();
        pushOnAFullStack();
        callOnAFullStack();
        interruptOnAFullStack();
        interruptOnAFullStackAsleep();
        twoInterruptsOnAFullStack();
        pinsOnAFullStack();
        noInterruptIsReadyOnAFullStack();
        interruptsFillTheStack();
        popsFromAnEmptyStack();
        nothingHappensThen();
        nothingChangesThen();
        watchdogDoesNotWakeIt();
        haltedForGood();
        sleepAtTheEndIsNoHalt();
        interruptAtTheEndIsTaken();
        end();
    }

    private static void dueHaltAt(String when, TickController x, int pc, int time) {
        dueState(when, x, MODE, HALTED);
        dueState(when, x, PC, pc);
        dueState(when, x, TIME, time);
    }

    private static void noInstructionThere() {
        TickController x = machine(LDI, 0, 1);
        due("run over the end", x.run(10), 1);
        dueHaltAt("run over the end", x, 1, 1);
        TickController y = machine(JMP, 0, 40);
        due("run beyond the end", y.run(10), 2);
        dueHaltAt("run beyond the end", y, 40, 2);
        TickController z = machine(LDI, 0, 200, PUSH, 0, 0, RET, 0, 0);
        due("RET beyond the end", z.run(10), 6);
        dueHaltAt("RET beyond the end", z, 200, 6);
    }

    private static void noProgramAtAll() {
        TickController x = new TickController();
        due("no program", x.run(1), 0);
        dueHaltAt("no program", x, 0, 0);
        due("no program", x.run(3000), 0);
        x.power();
        dueState("no program, after power", x, MODE, RUNNING);
        due("no program, after power", x.run(3000), 0);
        dueHaltAt("no program, after power", x, 0, 0);
    }

    private static void endOfAFullProgram() {
        TickController x = new TickController();
        for (int k = 0; k < 48; k++) {
            x.load(LDI, 0, k);
        }
        pass(x, 47);
        dueState("before the last", x, PC, 47);
        pass(x, 1);
        dueState("after the last", x, PC, 48);
        dueState("after the last", x, MODE, RUNNING);
        dueRegister("after the last", x, 0, 47);
        due("beyond the last", x.run(1), 0);
        dueHaltAt("beyond the last", x, 48, 48);
    }

    /** Z and C are set and register 1 is 0, so that all of these jump; the program has six instructions. */
    private static void everyJumpToNowhere() {
        int[] jumps = {JMP, JZ, JC, CALL, DJNZ};
        int[] places = {6, 47, 48, 255};
        for (int op : jumps) {
            for (int at : places) {
                TickController x = machine(LDI, 0, 1, SHR, 0, 0, LDI, 2, 2, op, 1, at, LDI, 3, 3, LDI, 4, 4);
                int cycles = 3 + (op == CALL ? 3 : 2);
                due("operation " + op + " to " + at, x.run(100), cycles);
                dueHaltAt("operation " + op + " to " + at, x, at, cycles);
                dueRegister("operation " + op + " to " + at, x, 3, 0);
            }
            TickController y = machine(LDI, 0, 1, SHR, 0, 0, LDI, 2, 2, op, 1, 5, LDI, 3, 3, LDI, 4, 4);
            y.run(100);
            dueRegister("operation " + op + " to the last one", y, 4, 4);
            dueRegister("operation " + op + " to the last one", y, 3, 0);
        }
    }

    private static TickController pusher() {
        return machine(LDI, 0, FULL, PUSH, 0, 0, DJNZ, 0, 1, PUSH, 0, 0, JMP, 0, 3);
    }

    private static void pushOnAFullStack() {
        TickController x = pusher();
        int untilFull = 1 + FULL * 4 - 1;
        pass(x, untilFull);
        dueState("sixteen pushed", x, DEPTH, FULL);
        dueState("sixteen pushed", x, MODE, RUNNING);
        due("the seventeenth", x.run(10), 0);
        dueHaltAt("the seventeenth", x, 3, untilFull);
        dueState("the seventeenth", x, DEPTH, FULL);
    }

    private static void callOnAFullStack() {
        TickController x = machine(CALL, 0, 0);
        due("CALL without end", x.run(1000), 3 * FULL);
        dueHaltAt("CALL without end", x, 0, 3 * FULL);
        dueState("CALL without end", x, DEPTH, FULL);
        TickController y = machine(CALL, 0, 1, CALL, 0, 0);
        pass(y, 3 * FULL);
        dueState("sixteen calls", y, DEPTH, FULL);
        dueState("sixteen calls", y, MODE, RUNNING);
        due("the seventeenth call", y.run(1000), 0);
        dueHaltAt("the seventeenth call", y, 0, 3 * FULL);
        dueState("the seventeenth call", y, DEPTH, FULL);
    }

    /** The stack is full, reception and pins are enabled and I is 1 when it comes to the instruction at 8. */
    private static TickController fullWithInterrupts(int operation) {
        TickController x = machine(program(code(LDI, 0, FULL, PUSH, 0, 0, DJNZ, 0, 1), out(SERIAL_CONTROL, 8),
                out(MASK, 1), code(SEI, 0, 0, operation, 1, 1, LDI, 2, 2)));
        x.vector(4, 1);
        x.vector(8, 1);
        pass(x, FULL_WITH_INTERRUPTS);
        return x;
    }

    private static void dueNotTaken(String when, TickController x, int pc, int time, int pending) {
        dueHaltAt(when, x, pc, time);
        dueState(when, x, DEPTH, FULL);
        dueState(when, x, TAKEN, 0);
        dueState(when, x, FLAGS, I);
        duePort(when, x, PENDING, pending);
    }

    private static void interruptOnAFullStack() {
        TickController x = fullWithInterrupts(LDI);
        x.receive(1);
        due("interrupt on a full stack", x.run(10), 0);
        dueNotTaken("interrupt on a full stack", x, 8, FULL_WITH_INTERRUPTS, 16);
        dueRegister("interrupt on a full stack", x, 1, 0);
        due("interrupt on a full stack: run(10) again", x.run(10), 0);
        dueNotTaken("interrupt on a full stack, later", x, 8, FULL_WITH_INTERRUPTS, 16);
        x.power();
        dueAsAtPower("interrupt on a full stack, then power", x);
    }

    private static void interruptOnAFullStackAsleep() {
        TickController x = fullWithInterrupts(SLEEP);
        pass(x, 20);
        dueState("full and asleep", x, MODE, ASLEEP);
        x.receive(1);
        due("interrupt on a full stack, asleep", x.run(10), 0);
        dueNotTaken("interrupt on a full stack, asleep", x, 9, FULL_WITH_INTERRUPTS + 20, 16);
    }

    private static void twoInterruptsOnAFullStack() {
        TickController x = fullWithInterrupts(LDI);
        x.receive(1);
        x.pins(1);
        due("two on a full stack", x.run(10), 0);
        dueNotTaken("two on a full stack", x, 8, FULL_WITH_INTERRUPTS, 16);
    }

    private static void pinsOnAFullStack() {
        TickController x = fullWithInterrupts(LDI);
        x.pins(1);
        due("pins on a full stack", x.run(10), 0);
        dueNotTaken("pins on a full stack", x, 8, FULL_WITH_INTERRUPTS, 0);
    }

    /** Only an interrupt that would be taken halts: one that isn't enabled, or comes while I is 0, does not. */
    private static void noInterruptIsReadyOnAFullStack() {
        TickController x = machine(LDI, 0, FULL, PUSH, 0, 0, DJNZ, 0, 1, SEI, 0, 0, JMP, 0, 4);
        x.receive(1);
        pass(x, 1 + FULL * 4 - 1 + 1 + 20);
        dueState("not enabled on a full stack", x, MODE, RUNNING);

        TickController y = machine(program(code(LDI, 0, FULL, PUSH, 0, 0, DJNZ, 0, 1), out(SERIAL_CONTROL, 8),
                code(JMP, 0, 5)));
        y.receive(1);
        pass(y, 1 + FULL * 4 - 1 + 2 + 20);
        dueState("I is 0 on a full stack", y, MODE, RUNNING);
    }

    /** The last place on the stack may be taken; each handler is the program's beginning, which sets I again. */
    private static void interruptsFillTheStack() {
        TickController x = machine(program(out(A_CONTROL, 255), code(LDI, 0, 0, SEI, 0, 0, SLEEP, 0, 0)));
        pass(x, 16 * FULL + 15);
        dueState("sixteen taken", x, TAKEN, FULL);
        dueState("sixteen taken", x, DEPTH, FULL);
        dueState("sixteen taken", x, MODE, ASLEEP);
        due("the seventeenth interrupt", x.run(100), 1);
        dueHaltAt("the seventeenth interrupt", x, 5, 16 * FULL + 16);
        dueState("the seventeenth interrupt", x, TAKEN, FULL);
        dueState("the seventeenth interrupt", x, FLAGS, I);
        duePort("the seventeenth interrupt", x, PENDING, 1);
    }

    private static void popsFromAnEmptyStack() {
        int[] ops = {POP, RET, RETI};
        for (int op : ops) {
            TickController x = machine(LDI, 3, 9, op, 3, 0, LDI, 3, 1);
            due("operation " + op + " on an empty stack", x.run(10), 1);
            dueHaltAt("operation " + op + " on an empty stack", x, 1, 1);
            dueState("operation " + op + " on an empty stack", x, FLAGS, 0);
            dueState("operation " + op + " on an empty stack", x, DEPTH, 0);
            dueRegister("operation " + op + " on an empty stack", x, 3, 9);
        }
    }

    private static void nothingHappensThen() {
        TickController x = machine(program(out(SERIAL_CONTROL, 8), out(WATCHDOG, 1), out(A_CONTROL, 1),
                out(SERIAL_DATA, 5), code(SEI, 0, 0)));
        x.run(100);
        dueState("halted", x, MODE, HALTED);
        x.receive(1);
        for (int k = 0; k < 5; k++) {
            due("halted: run(100)", x.run(100), 0);
        }
        dueHaltAt("halted", x, 9, 9);
        dueState("halted", x, TAKEN, 0);
        dueState("halted", x, RESETS, 0);
        duePort("halted", x, A_COUNT, 4);
        due("halted: sent()", x.sent(), 0);
    }

    /** Each way to halt: what can be asked stays as it is, however long it runs. */
    private static void nothingChangesThen() {
        int[][] lastOnes = {{POP, 0, 0}, {RET, 0, 0}, {RETI, 0, 0}, {JMP, 0, 40}, {CALL, 0, 4}};
        for (int[] last : lastOnes) {
            TickController x = machine(program(out(A_CONTROL, 1 + 4 + 8 + 32), out(SERIAL_DATA, 5), last));
            x.run(200);
            dueState("halted by operation " + last[0], x, MODE, HALTED);
            String before = snapshot(x);
            due("halted by operation " + last[0], x.run(3000), 0);
            due("halted by operation " + last[0], x.run(1), 0);
            dueSame("halted by operation " + last[0], x, before);
        }
    }

    private static void watchdogDoesNotWakeIt() {
        TickController x = machine(program(out(WATCHDOG, 1), code(POP, 0, 0)));
        due("up to POP", x.run(100), 2);
        due("halted", x.run(3000), 0);
        dueHaltAt("halted", x, 2, 2);
        dueState("halted", x, RESETS, 0);
    }

    private static void haltedForGood() {
        TickController x = machine(POP, 0, 0);
        x.run(1);
        x.load(LDI, 0, 1);
        x.pins(1);
        x.vector(0, 1);
        due("halted for good", x.run(5), 0);
        dueState("halted for good", x, MODE, HALTED);
        x.power();
        dueState("until power", x, MODE, RUNNING);
    }

    private static void sleepAtTheEndIsNoHalt() {
        TickController x = machine(SLEEP, 0, 0);
        due("asleep at the end", x.run(50), 50);
        dueState("asleep at the end", x, MODE, ASLEEP);
        dueState("asleep at the end", x, PC, 1);
    }

    /** The document is silent here; interrupts are looked at before the instruction is. */
    private static void interruptAtTheEndIsTaken() {
        TickController x = machine(program(out(SERIAL_CONTROL, 8), code(JMP, 0, 5, LDI, 0, 3, RETI, 0, 0,
                SEI, 0, 0)));
        x.vector(4, 3);
        x.receive(1);
        due("interrupt at the end", x.run(100), 2 + 2 + 1 + 3 + 1 + 3);
        dueState("interrupt at the end", x, TAKEN, 1);
        dueRegister("interrupt at the end", x, 0, 3);
        dueHaltAt("interrupt at the end", x, 6, 12);
    }
}
