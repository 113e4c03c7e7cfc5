/** Interrupts and sleep. */
final class InterruptsTest extends TestBase {
    public static void main(String[] args) {
        takingOne();
        returningFromOne();
        notWithoutI();
        notWithoutEnabling();
        pendingStaysUntilEnabled();
        theLeastComesFirst();
        allNineInOrder();
        aLesserOneThatIsNotEnabledWaits();
        otherBitsEnableNothing();
        notInsideAHandler();
        nextOneRightAfterReti();
        clearedOneIsNotTaken();
        comingAgainStaysPending();
        beforeEachInstruction();
        sleepEndsWithAnInterrupt();
        sleepWithoutI();
        sleepWithOnePendingAlready();
        sleepWithOneNotEnabled();
        sleepUntilItIsEnabledNever();
        beforeEachCycleAsleep();
        interruptAtTheVeryFirstInstruction();
        comingDuringAnInterruptWaits();
        end();
    }

    /** T is 3 and I is 1 when it comes to the loop at 3; the handler is at 4. */
    private static TickController waiting() {
        TickController x = machine(program(out(SERIAL_CONTROL, 8),
                code(SEI, 0, 0, JMP, 0, 3, LDI, 0, 5, RETI, 0, 0)));
        x.vector(4, 4);
        pass(x, 3);
        return x;
    }

    private static void takingOne() {
        TickController x = waiting();
        x.receive(1);
        duePort("before", x, PENDING, 16);
        pass(x, 3);
        int[] want = {4, 0, 1, RUNNING, 0, 1, 6, 0};
        for (int what = 0; what <= 7; what++) {
            dueState("an interrupt taken", x, what, want[what]);
        }
        duePort("an interrupt taken", x, PENDING, 0);
    }

    private static void returningFromOne() {
        TickController x = waiting();
        pass(x, 4);
        x.receive(1);
        pass(x, 3 + 1 + 3);
        dueState("RETI", x, PC, 3);
        dueState("RETI", x, FLAGS, I);
        dueState("RETI", x, DEPTH, 0);
        dueRegister("RETI", x, 0, 5);
    }

    private static void notWithoutI() {
        TickController x = machine(program(out(SERIAL_CONTROL, 8), code(SEI, 0, 0, CLI, 0, 0, JMP, 0, 4)));
        pass(x, 4);
        x.receive(1);
        pass(x, 20);
        dueState("I is 0", x, TAKEN, 0);
        duePort("I is 0", x, PENDING, 16);
    }

    private static void notWithoutEnabling() {
        TickController x = machine(program(out(SERIAL_CONTROL, 16), out(A_CONTROL, 24), out(CONVERTER, 8),
                out(STORE_CONTROL, 8), out(MASK, 1), code(SEI, 0, 0, JMP, 0, 11)));
        pass(x, 11);
        x.receive(1);
        pass(x, 20);
        dueState("others are enabled", x, TAKEN, 0);
        duePort("others are enabled", x, PENDING, 16);
    }

    private static void pendingStaysUntilEnabled() {
        TickController x = machine(program(code(SEI, 0, 0, DJNZ, 0, 1), out(SERIAL_CONTROL, 8)));
        x.vector(4, 30);
        x.receive(1);
        pass(x, 1 + 511 + 1);
        dueState("not enabled", x, TAKEN, 0);
        pass(x, 1);
        dueState("enabled", x, TAKEN, 0);
        pass(x, 3);
        dueState("taken", x, TAKEN, 1);
        dueState("taken", x, PC, 30);
    }

    /** Five are pending when I becomes 1: 4 (reception), 5 (sent), 6 (converter), 7 (store) and 8 (pins). */
    private static TickController fivePending() {
        TickController x = machine(program(out(SERIAL_CONTROL, 24), out(SERIAL_DATA, 1), out(CONVERTER, 12),
                out(STORE_DATA, 1), out(STORE_CONTROL, 8), out(MASK, 128),
                code(DJNZ, 0, 12, SEI, 0, 0, JMP, 0, 14, RETI, 0, 0)));
        for (int k = 0; k <= 8; k++) {
            x.vector(k, k == 5 ? 30 : 15);
        }
        pass(x, 12);
        x.pins(128);
        x.receive(1);
        pass(x, 511 + 1);
        duePort("five pending", x, PENDING, 16 + 32 + 64 + 128);
        return x;
    }

    private static void theLeastComesFirst() {
        TickController x = fivePending();
        for (int k = 0; k <= 8; k++) {
            x.vector(k, 15);
        }
        int[] left = {32 + 64 + 128, 64 + 128, 128, 0, 0};
        for (int k = 0; k < 5; k++) {
            pass(x, 3);
            dueState("taken in order", x, TAKEN, k + 1);
            dueState("taken in order", x, PC, 15);
            dueState("taken in order", x, DEPTH, 1);
            duePort("taken in order", x, PENDING, left[k]);
            pass(x, 3);
            dueState("returned", x, PC, 14);
        }
        pass(x, 2);
        dueState("all taken", x, TAKEN, 5);
    }

    /** All nine are pending and I is 1 when T is 61. */
    private static TickController ninePending(int controlOfA) {
        TickController x = new TimedProgram().out(1, CONVERTER, 4 + 8).out(3, STORE_DATA, 1).out(5, SERIAL_DATA, 1)
                .out(7, A_COUNT, 255).out(9, B_COUNT, 255).out(11, A_CONTROL, 1).out(13, B_CONTROL, 1)
                .out(15, MASK, 128).out(17, A_CONTROL, controlOfA).out(19, B_CONTROL, 24).out(21, SERIAL_CONTROL, 24)
                .out(23, STORE_CONTROL, 8).at(60, SEI, 0, 0).sleeping();
        int handler = x.load(RETI, 0, 0);
        due("the handler's number", handler > 0, true);
        for (int k = 0; k <= 8; k++) {
            x.vector(k, handler);
        }
        pass(x, 31);
        x.pins(128);
        x.receive(1);
        pass(x, 61 - 31);
        duePort("nine pending", x, PENDING, 255);
        return x;
    }

    private static void allNineInOrder() {
        TickController x = ninePending(24);
        int left = 511;
        for (int k = 0; k <= 8; k++) {
            pass(x, 3);
            left -= 1 << k;
            duePort("taken: " + k, x, PENDING, left & 255);
            dueState("taken: " + k, x, TAKEN, k + 1);
            pass(x, 3);
        }
        pass(x, 20);
        dueState("all nine", x, TAKEN, 9);
    }

    private static void aLesserOneThatIsNotEnabledWaits() {
        TickController x = ninePending(16);
        pass(x, 8 * 6 + 20);
        dueState("all but 0", x, TAKEN, 8);
        duePort("all but 0", x, PENDING, 1);
    }

    /** All nine are pending; the ports' bits are all set, but for those that enable and those that start a timer. */
    private static void otherBitsEnableNothing() {
        int[] port = {A_CONTROL, A_CONTROL, B_CONTROL, B_CONTROL, SERIAL_CONTROL, SERIAL_CONTROL, CONVERTER,
            STORE_CONTROL, MASK};
        int[] bit = {8, 16, 8, 16, 8, 16, 8, 8, 1};
        for (int k = -1; k <= 8; k++) {
            TimedProgram program = new TimedProgram().out(1, CONVERTER, 4).out(3, STORE_DATA, 1)
                    .out(5, SERIAL_DATA, 1).out(7, A_COUNT, 255).out(9, B_COUNT, 255).out(11, A_CONTROL, 1)
                    .out(13, B_CONTROL, 1).out(15, MASK, 255);
            int[] written = {A_CONTROL, B_CONTROL, SERIAL_CONTROL, CONVERTER, STORE_CONTROL, MASK};
            int[] values = {0xE4, 0xE4, 0xE7, 0xF3, 0xF7, 0};
            for (int p = 0; p < written.length; p++) {
                int enabling = k >= 0 && port[k] == written[p] ? bit[k] : 0;
                program.out(61 + 2 * p, written[p], values[p] + enabling);
            }
            TickController x = program.at(73, SEI, 0, 0).sleeping();
            x.vector(k, 40);
            pass(x, 21);
            x.pins(1);
            x.receive(1);
            pass(x, 74 - 21);
            duePort("all are pending", x, PENDING, 255);
            x.run(3);
            dueState("enabled: " + k, x, TAKEN, k < 0 ? 0 : 1);
            dueState("enabled: " + k, x, MODE, k < 0 ? ASLEEP : RUNNING);
            duePort("enabled: " + k, x, PENDING, k < 0 || k == 8 ? 255 : 255 - (1 << k));
        }
    }

    private static void notInsideAHandler() {
        TickController x = waiting();
        x.receive(1);
        pass(x, 3);
        x.receive(2);
        pass(x, 1);
        dueState("inside the handler", x, TAKEN, 1);
        dueState("inside the handler", x, PC, 5);
    }

    /** Between RETI and the next interrupt no instruction is carried out. */
    private static void nextOneRightAfterReti() {
        TickController x = fivePending();
        x.vector(5, 30);
        pass(x, 3 + 3 + 3);
        dueState("right after RETI", x, TAKEN, 2);
        dueState("right after RETI", x, PC, 30);
    }

    private static void clearedOneIsNotTaken() {
        TickController x = machine(program(out(SERIAL_CONTROL, 8), out(PENDING, 16), code(SEI, 0, 0, JMP, 0, 5)));
        x.receive(1);
        pass(x, 5 + 10);
        dueState("cleared before SEI", x, TAKEN, 0);
    }

    /** All that the port shows comes twice until T = 701 (the timers at 257 and 513), and is never cleared. */
    private static void comingAgainStaysPending() {
        TickController x = machine(program(out(A_CONTROL, 1), out(B_CONTROL, 1), code(IN, 0, SERIAL_DATA),
                out(SERIAL_DATA, 1), out(CONVERTER, 4), out(STORE_DATA, 1), code(DJNZ, 1, 11, JMP, 0, 4)));
        x.receive(1);
        x.run(400);
        duePort("come once", x, PENDING, 255);
        x.receive(2);
        duePort("come again", x, PENDING, 255);
        x.run(300);
        duePort("come again", x, PENDING, 255);
        due("sent again", x.sent(), 2);
    }

    /** The timer's count comes to 3 in the middle of CALL's three cycles. */
    private static void beforeEachInstruction() {
        TickController x = machine(program(out(A_COMPARE, 3), out(A_CONTROL, 9),
                code(SEI, 0, 0, CALL, 0, 6, LDI, 0, 1, LDI, 1, 1)));
        x.vector(0, 20);
        pass(x, 5 + 3 + 3);
        dueState("in the middle of CALL", x, PC, 20);
        dueState("in the middle of CALL", x, DEPTH, 2);
        dueRegister("in the middle of CALL", x, 0, 0);
    }

    private static TickController sleeping(int flag) {
        TickController x = machine(program(out(SERIAL_CONTROL, 8),
                code(flag, 0, 0, SLEEP, 0, 0, LDI, 1, 1, JMP, 0, 5, LDI, 0, 5, RETI, 0, 0)));
        x.vector(4, 6);
        return x;
    }

    private static void sleepEndsWithAnInterrupt() {
        TickController x = sleeping(SEI);
        pass(x, 100);
        dueState("asleep", x, MODE, ASLEEP);
        dueState("asleep", x, PC, 4);
        x.receive(1);
        pass(x, 3);
        dueState("awake", x, MODE, RUNNING);
        dueState("awake", x, PC, 6);
        pass(x, 1 + 3 + 1);
        dueState("awake after the handler", x, MODE, RUNNING);
        dueRegister("awake after the handler", x, 1, 1);
    }

    private static void sleepWithoutI() {
        TickController x = sleeping(CLI);
        pass(x, 10);
        x.receive(1);
        pass(x, 1000);
        dueState("asleep without I", x, MODE, ASLEEP);
        dueState("asleep without I", x, TAKEN, 0);
    }

    private static void sleepWithOnePendingAlready() {
        TickController x = machine(program(out(A_COMPARE, 2), out(A_CONTROL, 9), code(SEI, 0, 0, SLEEP, 0, 0)));
        x.vector(0, 20);
        pass(x, 5);
        due("pending before SLEEP", x.run(1), 3);
        dueState("pending before SLEEP", x, PC, 20);

        TickController y = sleeping(SEI);
        pass(y, 3);
        pass(y, 1);
        dueState("SLEEP", y, MODE, ASLEEP);
        y.receive(1);
        due("before the first cycle asleep", y.run(1), 3);
        dueState("before the first cycle asleep", y, TIME, 7);
    }

    private static void sleepWithOneNotEnabled() {
        TickController x = machine(SEI, 0, 0, SLEEP, 0, 0);
        x.receive(1);
        pass(x, 100);
        dueState("not enabled", x, MODE, ASLEEP);
        duePort("not enabled", x, PENDING, 16);
    }

    /** Asleep nothing can enable it, so it sleeps on, however long. */
    private static void sleepUntilItIsEnabledNever() {
        TickController x = machine(program(out(SERIAL_CONTROL, 16), code(SEI, 0, 0, SLEEP, 0, 0)));
        pass(x, 4);
        x.receive(1);
        pass(x, 3000);
        dueState("another one is enabled", x, MODE, ASLEEP);
        dueState("another one is enabled", x, TAKEN, 0);
    }

    /** The timer's count comes to 20 when T is 23: the cycle after is the interrupt's first. */
    private static void beforeEachCycleAsleep() {
        TickController x = machine(program(out(A_COMPARE, 20), out(A_CONTROL, 1 + 8), code(SEI, 0, 0, SLEEP, 0, 0)));
        x.vector(0, 30);
        pass(x, 23);
        dueState("pending, not taken yet", x, MODE, ASLEEP);
        duePort("pending, not taken yet", x, PENDING, 1);
        due("run(1)", x.run(1), 3);
        dueState("taken", x, MODE, RUNNING);
        dueState("taken", x, PC, 30);
        dueState("taken", x, TIME, 26);
    }

    private static void interruptAtTheVeryFirstInstruction() {
        TickController x = machine(SEI, 0, 0, LDI, 0, 1);
        x.receive(1);
        pass(x, 2);
        dueState("at power nothing is enabled", x, TAKEN, 0);
        dueRegister("at power nothing is enabled", x, 0, 1);
    }

    /** Interrupt 0 comes in the three cycles of interrupt 4: it is taken after RETI only. */
    private static void comingDuringAnInterruptWaits() {
        TickController x = machine(program(out(SERIAL_CONTROL, 8), out(A_COMPARE, 4), out(A_CONTROL, 1 + 8),
                code(SEI, 0, 0, JMP, 0, 7, RETI, 0, 0)));
        x.vector(4, 8);
        x.vector(0, 20);
        pass(x, 7);
        duePort("before", x, A_COUNT, 2);
        x.receive(1);
        pass(x, 3);
        dueState("the first", x, PC, 8);
        duePort("the first", x, PENDING, 1);
        pass(x, 3 + 3);
        dueState("the second", x, PC, 20);
        dueState("the second", x, DEPTH, 1);
        dueState("the second", x, TAKEN, 2);
    }
}
