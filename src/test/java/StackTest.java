/** "A stack of at most 16 ints": what it gives back, and both of its ends. Full and empty ones halt in HaltTest. */
final class StackTest extends TestBase {
    private static final int FULL = 16;

    public static void main(String[] args) {
        sixteenComeBackInOrder();
        sixteenCallsReturn();
        fullStackMayBePopped();
        emptiedStackHalts();
        pcAndBytesShareTheStack();
        callAtTheLastInstruction();
        retToWhereNoInstructionIs();
        interruptTakesTheLastPlace();
        resetEmptiesAFullStack();
        afterAResetAPopHalts();
        end();
    }

    /** Pushes 16, 15 and so on to 1; what comes back goes to memory 16, 15 and so on. */
    private static void sixteenComeBackInOrder() {
        TickController x = machine(LDI, 0, FULL, PUSH, 0, 0, DJNZ, 0, 1, LDI, 0, FULL, POP, 1, 0, STX, 1, 0,
                DJNZ, 0, 4, SLEEP, 0, 0);
        x.run(300);
        dueState("sixteen popped", x, DEPTH, 0);
        dueState("sixteen popped", x, MODE, ASLEEP);
        for (int k = 1; k <= FULL; k++) {
            due("popped number " + (FULL - k), x.memory(k), FULL + 1 - k);
        }
    }

    /** The even instructions call the next even one; the odd ones return, but the first of them sleeps. */
    private static void sixteenCallsReturn() {
        TickController x = new TickController();
        for (int k = 0; k < FULL; k++) {
            x.load(CALL, 0, 2 * k + 2);
            x.load(k == 0 ? SLEEP : RET, 0, 0);
        }
        x.load(RET, 0, 0);
        pass(x, 3 * FULL);
        dueState("sixteen calls", x, DEPTH, FULL);
        dueState("sixteen calls", x, PC, 2 * FULL);
        for (int k = FULL; k >= 1; k--) {
            pass(x, 3);
            dueState("RET of call " + k, x, DEPTH, k - 1);
            dueState("RET of call " + k, x, PC, 2 * k - 1);
        }
        pass(x, 10);
        dueState("all returned", x, MODE, ASLEEP);
    }

    private static void fullStackMayBePopped() {
        TickController x = machine(LDI, 0, FULL, PUSH, 0, 0, DJNZ, 0, 1, POP, 1, 0, PUSH, 2, 0, PUSH, 3, 0);
        pass(x, 1 + FULL * 4 - 1);
        pass(x, 2);
        dueState("one popped", x, DEPTH, FULL - 1);
        dueRegister("one popped", x, 1, 1);
        pass(x, 2);
        dueState("full again", x, DEPTH, FULL);
        dueState("full again", x, MODE, RUNNING);
        due("one too many", x.run(1), 0);
        dueState("one too many", x, MODE, HALTED);
    }

    private static void emptiedStackHalts() {
        int[] pops = {POP, RET, RETI};
        for (int op : pops) {
            TickController x = machine(LDI, 0, 3, PUSH, 0, 0, POP, 1, 0, op, 2, 0, LDI, 3, 1);
            due("operation " + op + " on an emptied stack", x.run(100), 5);
            dueState("operation " + op + " on an emptied stack", x, MODE, HALTED);
            dueState("operation " + op + " on an emptied stack", x, PC, 3);
            dueRegister("operation " + op + " on an emptied stack", x, 1, 3);
            dueRegister("operation " + op + " on an emptied stack", x, 2, 0);
        }
    }

    private static void pcAndBytesShareTheStack() {
        TickController x = machine(LDI, 0, 200, PUSH, 0, 0, CALL, 0, 3, POP, 1, 0, POP, 2, 0, SLEEP, 0, 0);
        x.run(20);
        dueRegister("a PC", x, 1, 3);
        dueRegister("a byte", x, 2, 200);
        dueState("both popped", x, DEPTH, 0);
    }

    /** The next one of instruction 47 is 48, where none can be. */
    private static void callAtTheLastInstruction() {
        TickController x = machine(JMP, 0, 47, POP, 1, 0, PUSH, 1, 0, RET, 0, 0);
        for (int k = 4; k < 47; k++) {
            x.load(LDI, 0, 0);
        }
        due("CALL as the last instruction", x.load(CALL, 0, 1), 47);
        pass(x, 2 + 3 + 2);
        dueRegister("PC of the next one", x, 1, 48);
        due("RET to 48", x.run(100), 2 + 3);
        dueState("RET to 48", x, PC, 48);
        dueState("RET to 48", x, MODE, HALTED);
    }

    private static void retToWhereNoInstructionIs() {
        int[] returns = {RET, RETI};
        for (int op : returns) {
            TickController x = machine(LDI, 0, 255, PUSH, 0, 0, op, 0, 0);
            due("return to 255", x.run(100), 6);
            dueState("return to 255", x, PC, 255);
            dueState("return to 255", x, DEPTH, 0);
            dueState("return to 255", x, MODE, HALTED);
        }
    }

    private static void interruptTakesTheLastPlace() {
        TickController x = machine(program(code(LDI, 0, FULL - 1, PUSH, 0, 0, DJNZ, 0, 1), out(SERIAL_CONTROL, 8),
                code(SEI, 0, 0, JMP, 0, 6, RETI, 0, 0)));
        x.vector(4, 7);
        pass(x, 1 + (FULL - 1) * 4 - 1 + 3);
        dueState("fifteen", x, DEPTH, FULL - 1);
        x.receive(1);
        pass(x, 3);
        dueState("the sixteenth", x, DEPTH, FULL);
        dueState("the sixteenth", x, TAKEN, 1);
        dueState("the sixteenth", x, MODE, RUNNING);
        pass(x, 3);
        dueState("returned", x, DEPTH, FULL - 1);
        dueState("returned", x, PC, 6);
    }

    private static void resetEmptiesAFullStack() {
        TickController x = machine(program(out(WATCHDOG, 3), code(LDI, 0, FULL, PUSH, 0, 0, DJNZ, 0, 3,
                SLEEP, 0, 0)));
        pass(x, 1 + 127);
        dueState("a cycle before the reset", x, DEPTH, FULL);
        pass(x, 1);
        dueState("reset", x, RESETS, 1);
        dueState("reset", x, DEPTH, 0);
        pass(x, 1 + 127);
        dueState("full again", x, DEPTH, FULL);
        dueState("full again", x, MODE, ASLEEP);
    }

    /** Register 0 is 0 only the first time round, when one is pushed. */
    private static void afterAResetAPopHalts() {
        TickController x = machine(program(code(ADD, 0, 0, JZ, 0, 3, POP, 1, 0, LDI, 0, 1, PUSH, 0, 0),
                out(WATCHDOG, 1), code(SLEEP, 0, 0)));
        pass(x, 3 + 1 + 2 + 1);
        dueState("one pushed", x, DEPTH, 1);
        due("up to the reset, ADD and JZ", x.run(100), 32 + 2);
        dueState("POP after the reset", x, RESETS, 1);
        dueState("POP after the reset", x, MODE, HALTED);
        dueState("POP after the reset", x, PC, 2);
        dueRegister("POP after the reset", x, 1, 0);
    }
}
