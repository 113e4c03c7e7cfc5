/** What happens in one and the same cycle: an effect before its cycle, and several things at once. */
final class OneCycleTest extends TestBase {
    public static void main(String[] args) {
        for (int timer = 0; timer < 2; timer++) {
            controlTicksInItsOwnCycle(timer);
            controlOfZeroStopsBeforeItsOwnCycle(timer);
            countGoesOnInItsOwnCycle(timer);
            compareCountsInItsOwnCycle(timer);
            clearedPendingComesAgainInTheSameCycle(timer);
            prescaledControlTicksInItsOwnCycle(timer, 2, 4);
            prescaledControlTicksInItsOwnCycle(timer, 3, 16);
            overflowAndEqualInOneTick(timer);
        }
        inReadsBeforeItsCycle();
        channelWrittenInTheLastCycleCounts();
        storedByteIsReadInTheNextCycle();
        sendingEndsInTheCycleOfAnOut();
        bothTimersInOneCycle();
        bothTimersTurnTheirPinsInOneCycle();
        fiveThingsInOneCycle();
        fiveThingsAreTakenInOrder();
        watchdogComesAfterAllFive();
        wdrInTheLastCycle();
        outInTheLastCycleOfTheWatchdog();
        threeCyclesOfAnInterruptPass();
        end();
    }

    private static void controlTicksInItsOwnCycle(int timer) {
        TickController x = machine(out(count(timer) + 1, 1));
        pass(x, 1);
        duePort("before OUT of control", x, count(timer), 0);
        pass(x, 1);
        duePort("OUT of control", x, count(timer), 1);
    }

    private static void controlOfZeroStopsBeforeItsOwnCycle(int timer) {
        TickController x = machine(program(out(count(timer) + 1, 1), code(OUT, 0, count(timer) + 1, SLEEP, 0, 0)));
        pass(x, 2);
        duePort("OUT of 1", x, count(timer), 1);
        pass(x, 1);
        duePort("OUT of 0", x, count(timer), 1);
    }

    private static void countGoesOnInItsOwnCycle(int timer) {
        TickController x = machine(program(out(count(timer) + 1, 1), out(count(timer), 255), code(SLEEP, 0, 0)));
        pass(x, 4);
        duePort("OUT of count, 255", x, count(timer), 0);
        duePort("OUT of count, 255", x, PENDING, overflowBit(timer) + equalBit(timer));
    }

    /** The count is 3 when 4 is written to the compare value; its cycle makes them equal. */
    private static void compareCountsInItsOwnCycle(int timer) {
        TickController x = machine(program(code(LDI, 6, 4), out(count(timer) + 1, 1), code(LDI, 0, 0, LDI, 0, 0,
                OUT, 6, count(timer) + 2)));
        pass(x, 5);
        duePort("before OUT of compare", x, count(timer), 3);
        duePort("before OUT of compare", x, PENDING, 0);
        pass(x, 1);
        duePort("OUT of compare", x, count(timer), 4);
        duePort("OUT of compare", x, PENDING, equalBit(timer));
    }

    /** With compare 0 and bit 2 the two are equal in each cycle. */
    private static void clearedPendingComesAgainInTheSameCycle(int timer) {
        TickController x = machine(program(out(count(timer) + 1, 1 + 4), out(PENDING, 255), code(SLEEP, 0, 0)));
        pass(x, 3);
        duePort("before OUT of pending", x, PENDING, equalBit(timer));
        pass(x, 1);
        duePort("OUT of pending", x, PENDING, equalBit(timer));
    }

    /** The OUT's cycle makes T the multiple, or one less, or one more. */
    private static void prescaledControlTicksInItsOwnCycle(int timer, int prescaler, int every) {
        int[] ticks = {1, 1, 0};
        for (int late = -1; late <= 1; late++) {
            TickController x = new TickController();
            for (int k = 0; k < every + late - 2; k++) {
                x.load(LDI, 0, 0);
            }
            x.load(LDI, 7, prescaler);
            x.load(OUT, 7, count(timer) + 1);
            x.load(SLEEP, 0, 0);
            pass(x, every + late);
            duePort("OUT makes T " + (every + late), x, count(timer), late == 0 ? 1 : 0);
            pass(x, every - 2);
            duePort("T " + (2 * every - 2 + late), x, count(timer), ticks[late + 1]);
            pass(x, 2 - late);
            duePort("T " + 2 * every, x, count(timer), ticks[late + 1] + 1);
        }
    }

    private static void overflowAndEqualInOneTick(int timer) {
        TickController x = machine(program(out(count(timer), 255), out(count(timer) + 1, 1 + 32),
                code(SLEEP, 0, 0)));
        pass(x, 3);
        duePort("before", x, PENDING, 0);
        pass(x, 1);
        duePort("255 to an equal 0", x, PENDING, equalBit(timer) + overflowBit(timer));
        duePort("255 to an equal 0", x, OUTPUT, 1 << timer);
        dueState("255 to an equal 0", x, EDGES, 1);
    }

    private static void inReadsBeforeItsCycle() {
        TickController x = machine(program(out(A_CONTROL, 1), code(IN, 0, A_COUNT, IN, 1, CLOCK, IN, 2, A_COUNT)));
        pass(x, 5);
        dueRegister("IN of the count", x, 0, 1);
        dueRegister("IN of the cycles", x, 1, 3);
        dueRegister("IN of the count again", x, 2, 3);
    }

    /** The conversion that begins when T is 1 ends in the cycle that makes T 53. */
    private static TickController channelWritten(int when) {
        TickController x = new TimedProgram().out(1, CONVERTER, 4 + 1).out(when, CONVERTER, 2).sleeping();
        x.analog(1, 11);
        x.analog(2, 22);
        pass(x, when);
        return x;
    }

    private static void channelWrittenInTheLastCycleCounts() {
        TickController x = channelWritten(52);
        duePort("before the 52nd cycle", x, CONVERTER, 4 + 1);
        pass(x, 1);
        duePort("written in the 52nd cycle", x, CONVERTER, 2);
        duePort("written in the 52nd cycle", x, RESULT, 22);
        TickController y = channelWritten(53);
        duePort("before the 53rd cycle", y, CONVERTER, 1);
        pass(y, 100);
        duePort("written in the 53rd cycle", y, CONVERTER, 2);
        duePort("written in the 53rd cycle", y, RESULT, 11);
    }

    /** The byte whose storing begins when T is 1 is there when T is 41. */
    private static void storedByteIsReadInTheNextCycle() {
        TickController x = new TimedProgram().out(1, STORE_DATA, 99).at(40, IN, 1, STORE_DATA)
                .at(41, IN, 2, STORE_DATA).sleeping();
        pass(x, 50);
        dueRegister("IN in the 40th cycle", x, 1, 0);
        dueRegister("IN in the 41st cycle", x, 2, 99);
    }

    /** In the 8th cycle of sending the OUT comes first, finds the byte still being sent, and does nothing. */
    private static void sendingEndsInTheCycleOfAnOut() {
        TickController x = outTwice(SERIAL_DATA, 6);
        due("OUT in the 8th cycle: sent()", x.sent(), 1);
        TickController y = outTwice(SERIAL_DATA, 7);
        due("OUT in the 9th cycle: sent()", y.sent(), 2);
    }

    private static void bothTimersInOneCycle() {
        TickController x = machine(program(out(A_COMPARE, 10), out(B_COMPARE, 8), out(A_CONTROL, 1),
                out(B_CONTROL, 1), code(SLEEP, 0, 0)));
        pass(x, 14);
        duePort("before", x, PENDING, 0);
        pass(x, 1);
        duePort("both", x, PENDING, 1 + 4);
        duePort("both", x, A_COUNT, 10);
        duePort("both", x, B_COUNT, 8);
    }

    private static void bothTimersTurnTheirPinsInOneCycle() {
        TickController x = machine(program(out(OUTPUT, 2), out(A_COMPARE, 10), out(B_COMPARE, 8),
                out(A_CONTROL, 1 + 32), out(B_CONTROL, 1 + 32), code(SLEEP, 0, 0)));
        pass(x, 16);
        duePort("before", x, OUTPUT, 2);
        dueState("before", x, EDGES, 1);
        pass(x, 1);
        duePort("both", x, OUTPUT, 1);
        dueState("both", x, EDGES, 3);
    }

    /** 52 cycles from 1 on, 40 from 13 on, 8 from 45 on, and the timers' counts: all come when T becomes 53. */
    private static TimedProgram fiveThings() {
        return new TimedProgram().out(1, CONVERTER, 4 + 8).out(3, STORE_CONTROL, 8).out(5, SERIAL_CONTROL, 16)
                .out(7, A_COMPARE, 36).out(9, B_COMPARE, 34).out(13, STORE_DATA, 44).out(17, A_CONTROL, 1 + 8)
                .out(19, B_CONTROL, 1 + 8).out(45, SERIAL_DATA, 67);
    }

    private static void fiveThingsInOneCycle() {
        TickController x = fiveThings().sleeping();
        x.analog(0, 99);
        pass(x, 52);
        duePort("before", x, PENDING, 0);
        duePort("before", x, RESULT, 0);
        due("before: sent()", x.sent(), 0);
        due("before: stored(0)", x.stored(0), 0);
        pass(x, 1);
        duePort("all five", x, PENDING, 1 + 4 + 32 + 64 + 128);
        duePort("all five", x, RESULT, 99);
        due("all five: line(0)", x.line(0), 67);
        due("all five: stored(0)", x.stored(0), 44);
    }

    private static void fiveThingsAreTakenInOrder() {
        TickController x = fiveThings().at(46, SEI, 0, 0).sleeping();
        int handler = x.load(RETI, 0, 0);
        int[] order = {0, 2, 5, 6, 7};
        for (int k : order) {
            x.vector(k, handler);
        }
        pass(x, 53);
        int left = 1 + 4 + 32 + 64 + 128;
        for (int k : order) {
            pass(x, 3);
            left -= 1 << k;
            duePort("taken: " + k, x, PENDING, left);
            dueState("taken: " + k, x, PC, handler);
            pass(x, 3);
        }
        dueState("all five", x, TAKEN, 5);
    }

    /** The watchdog's 32 cycles, from 21 on, are over when T becomes 53 as well. */
    private static void watchdogComesAfterAllFive() {
        TickController x = new TimedProgram().out(1, CONVERTER, 4).out(13, STORE_DATA, 44).out(21, WATCHDOG, 1)
                .out(23, A_CONTROL, 1 + 4 + 32).out(25, B_CONTROL, 1 + 4 + 32).out(45, SERIAL_DATA, 67).sleeping();
        x.analog(0, 99);
        pass(x, 52);
        dueState("before", x, RESETS, 0);
        dueState("before", x, EDGES, 52 - 23 + 52 - 25);
        due("before: sent()", x.sent(), 0);
        due("before: stored(0)", x.stored(0), 0);
        duePort("before", x, CONVERTER, 4);
        pass(x, 1);
        dueState("all six", x, RESETS, 1);
        dueState("all six", x, EDGES, 53 - 23 + 53 - 25);
        due("all six: line(0)", x.line(0), 67);
        due("all six: stored(0)", x.stored(0), 44);
        duePortsAsAtPower("all six", x);
    }

    /** The watchdog's 32 cycles from 1 on are over when T becomes 33. */
    private static TickController watched(int when, int op, int b) {
        TickController x = new TimedProgram().out(1, WATCHDOG, 1).at(when, op, 7, b).sleeping();
        pass(x, when);
        return x;
    }

    private static void dueInTime(String what, int op, int b) {
        TickController x = watched(32, op, b);
        dueState(what + " to come in the 32nd cycle", x, RESETS, 0);
        pass(x, 31);
        dueState(what + " in the 32nd cycle, 31 cycles", x, RESETS, 0);
        pass(x, 1);
        dueState(what + " in the 32nd cycle, 32 cycles", x, RESETS, 1);
        TickController y = watched(33, op, b);
        dueState(what + " to come in the 33rd cycle", y, RESETS, 1);
        dueState(what + " to come in the 33rd cycle", y, PC, 0);
    }

    private static void wdrInTheLastCycle() {
        dueInTime("WDR", WDR, 0);
    }

    private static void outInTheLastCycleOfTheWatchdog() {
        dueInTime("OUT of the watchdog", OUT, WATCHDOG);
    }

    private static void threeCyclesOfAnInterruptPass() {
        TickController x = machine(program(out(SERIAL_CONTROL, 8), out(A_CONTROL, 1), code(SEI, 0, 0, JMP, 0, 5)));
        pass(x, 5);
        duePort("before", x, A_COUNT, 2);
        x.receive(1);
        due("run(1)", x.run(1), 3);
        duePort("an interrupt", x, A_COUNT, 5);
        duePort("an interrupt", x, CLOCK, 8);
    }
}
