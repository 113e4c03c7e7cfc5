/** Both timers: prescalers, compare, overflow, clearing, interrupts and pins. */
final class TimersTest extends TestBase {
    private static final int CLEARS = 4, EQUAL_ENABLED = 8, OVERFLOW_ENABLED = 16, TURNS = 32;

    public static void main(String[] args) {
        for (int timer = 0; timer < 2; timer++) {
            standsStill(timer);
            ticksEachCycle(timer);
            prescalers(timer);
            prescalersCountFromPower(timer);
            becomesEqual(timer);
            equalByOutIsNothing(timer);
            overflows(timer);
            clears(timer);
            clearsWithCompareZero(timer);
            clearsWithCompareTopWithoutOverflow(timer);
            countAboveCompareGoesRound(timer);
            comparesAtTheTopWithoutClearing(timer);
            wrapsWithPrescalers(timer);
            clearsWithPrescalers(timer);
            neverTicksWithLowBitsZero(timer);
            clearingIsNoOverflow(timer);
            wrapsTwice(timer);
            equalEachTimeRound(timer);
            pinIsTurnedWhereverItWas(timer);
            pinIsNotTurnedByOut(timer);
            turnsItsPin(timer);
            interruptsAreEnabledApart(timer);
            otherTimerStands(timer);
        }
        end();
    }

    /** Sets the timer up and sleeps; the first tick of a timer with prescaler 1 comes at T = 6. */
    private static TickController timed(int timer, int count, int compare, int control) {
        TickController x = machine(program(out(count(timer), count), out(count(timer) + 2, compare),
                out(count(timer) + 1, control), code(SLEEP, 0, 0)));
        pass(x, 5);
        return x;
    }

    private static void standsStill(int timer) {
        TickController x = timed(timer, 7, 8, CLEARS + TURNS);
        pass(x, 300);
        duePort("control 0", x, count(timer), 7);
        duePort("control 0", x, PENDING, 0);
    }

    private static void ticksEachCycle(int timer) {
        TickController x = timed(timer, 10, 0, 1);
        for (int k = 0; k < 10; k++) {
            duePort("each cycle", x, count(timer), 10 + k);
            pass(x, 1);
        }
    }

    private static void prescalers(int timer) {
        int[] every = {0, 1, 4, 16};
        for (int prescaler = 1; prescaler <= 3; prescaler++) {
            TickController x = timed(timer, 0, 255, prescaler);
            int ticks = 0;
            for (int time = 6; time <= 100; time++) {
                pass(x, 1);
                ticks += time % every[prescaler] == 0 ? 1 : 0;
                duePort("prescaler " + prescaler + ", T = " + time, x, count(timer), ticks);
            }
        }
    }

    /** A reset by the watchdog lets T go on, and the prescaler with it. */
    private static void prescalersCountFromPower(int timer) {
        TickController x = machine(program(out(count(timer) + 1, 3), out(WATCHDOG, 1), code(SLEEP, 0, 0)));
        pass(x, 35);
        dueState("reset at 35", x, RESETS, 1);
        duePort("reset at 35", x, count(timer), 0);
        pass(x, 47 - 35);
        duePort("T = 47", x, count(timer), 0);
        pass(x, 1);
        duePort("T = 48", x, count(timer), 1);
    }

    private static void becomesEqual(int timer) {
        TickController x = timed(timer, 0, 3, 1);
        pass(x, 2);
        duePort("count 2, compare 3", x, PENDING, 0);
        pass(x, 1);
        duePort("count 3, compare 3", x, PENDING, equalBit(timer));
        pass(x, 1);
        duePort("it goes on", x, count(timer), 4);
        duePort("it stays pending", x, PENDING, equalBit(timer));
    }

    private static void equalByOutIsNothing(int timer) {
        TickController x = timed(timer, 9, 9, EQUAL_ENABLED + TURNS);
        pass(x, 20);
        duePort("equal without a tick", x, PENDING, 0);
        dueState("equal without a tick", x, EDGES, 0);
    }

    private static void overflows(int timer) {
        TickController x = timed(timer, 254, 100, 1);
        pass(x, 1);
        duePort("255", x, count(timer), 255);
        duePort("255", x, PENDING, 0);
        pass(x, 1);
        duePort("from 255 to 0", x, count(timer), 0);
        duePort("from 255 to 0", x, PENDING, overflowBit(timer));
        TickController y = timed(timer, 255, 0, 1);
        pass(y, 1);
        duePort("from 255 to an equal 0", y, PENDING, overflowBit(timer) + equalBit(timer));
    }

    private static void clears(int timer) {
        TickController x = timed(timer, 0, 3, 1 + CLEARS);
        int[] counts = {1, 2, 3, 0, 1, 2, 3, 0};
        for (int c : counts) {
            pass(x, 1);
            duePort("clearing at 3", x, count(timer), c);
        }
        duePort("clearing at 3", x, PENDING, equalBit(timer));
    }

    private static void clearsWithCompareZero(int timer) {
        TickController x = timed(timer, 0, 0, 1 + CLEARS + TURNS);
        for (int k = 1; k <= 9; k++) {
            pass(x, 1);
            duePort("clearing at 0", x, count(timer), 0);
            duePort("clearing at 0", x, PENDING, equalBit(timer));
            dueState("clearing at 0", x, EDGES, k);
        }
    }

    private static void clearsWithCompareTopWithoutOverflow(int timer) {
        TickController x = timed(timer, 254, 255, 1 + CLEARS);
        pass(x, 1);
        duePort("255 of 255", x, PENDING, equalBit(timer));
        pass(x, 1);
        duePort("cleared from 255", x, count(timer), 0);
        duePort("cleared from 255", x, PENDING, equalBit(timer));
    }

    private static void countAboveCompareGoesRound(int timer) {
        TickController x = timed(timer, 250, 3, 1 + CLEARS);
        pass(x, 6);
        duePort("above compare", x, count(timer), 0);
        duePort("above compare", x, PENDING, overflowBit(timer));
        pass(x, 4);
        duePort("round to compare", x, count(timer), 0);
    }

    private static void turnsItsPin(int timer) {
        TickController x = timed(timer, 0, 3, 1 + CLEARS + TURNS);
        int pin = 1 << timer;
        pass(x, 2);
        duePort("before the first", x, OUTPUT, 0);
        pass(x, 1);
        duePort("the first", x, OUTPUT, pin);
        dueState("the first", x, EDGES, 1);
        pass(x, 3);
        duePort("until the second", x, OUTPUT, pin);
        pass(x, 1);
        duePort("the second", x, OUTPUT, 0);
        dueState("the second", x, EDGES, 2);
        TickController y = timed(timer, 0, 3, 1 + CLEARS);
        pass(y, 20);
        duePort("bit 5 not set", y, OUTPUT, 0);
    }

    private static void interruptsAreEnabledApart(int timer) {
        dueVector(timer, 0, -1);
        dueVector(timer, EQUAL_ENABLED, 2 * timer);
        dueVector(timer, OVERFLOW_ENABLED, 2 * timer + 1);
        dueVector(timer, EQUAL_ENABLED + OVERFLOW_ENABLED, 2 * timer);
    }

    /** The count goes from 255 to 0, which is the compare value: both are pending at once, at T = 6. */
    private static void dueVector(int timer, int enabling, int k) {
        TickController x = machine(program(out(count(timer), 255), out(count(timer) + 1, 1 + enabling),
                code(SEI, 0, 0, JMP, 0, 5)));
        for (int v = 0; v <= 8; v++) {
            x.vector(v, 30 + v);
        }
        pass(x, 5);
        x.run(3);
        dueState("enabling " + enabling + " of timer " + timer, x, TAKEN, k < 0 ? 0 : 1);
        dueState("enabling " + enabling + " of timer " + timer, x, PC, k < 0 ? 5 : 30 + k);
    }

    private static void otherTimerStands(int timer) {
        TickController x = timed(timer, 0, 3, 1);
        pass(x, 50);
        duePort("the other timer", x, count(1 - timer), 0);
    }

    private static void comparesAtTheTopWithoutClearing(int timer) {
        TickController x = timed(timer, 253, 255, 1);
        pass(x, 1);
        duePort("254 of 255", x, PENDING, 0);
        pass(x, 1);
        duePort("255 of 255", x, PENDING, equalBit(timer));
        pass(x, 1);
        duePort("from 255 to 0", x, count(timer), 0);
        duePort("from 255 to 0", x, PENDING, equalBit(timer) + overflowBit(timer));
    }

    private static void wrapsWithPrescalers(int timer) {
        int[] every = {0, 1, 4, 16};
        for (int prescaler = 2; prescaler <= 3; prescaler++) {
            TickController x = timed(timer, 254, 100, prescaler);
            pass(x, 2 * every[prescaler] - 1 - 5);
            int start = prescaler == 2 ? 254 : 255;
            duePort("a cycle before a multiple", x, count(timer), start);
            pass(x, 1);
            duePort("at a multiple", x, count(timer), (start + 1) & 255);
            duePort("at a multiple", x, PENDING, start == 255 ? overflowBit(timer) : 0);
            pass(x, every[prescaler]);
            duePort("at the next multiple", x, count(timer), (start + 2) & 255);
            duePort("at the next multiple", x, PENDING, overflowBit(timer));
        }
    }

    private static void clearsWithPrescalers(int timer) {
        TickController x = timed(timer, 0, 2, 2 + CLEARS);
        int[] counts = {1, 2, 0, 1, 2, 0};
        for (int k = 0; k < counts.length; k++) {
            x.run(8 + 4 * k - x.state(TIME));
            duePort("T = " + (8 + 4 * k), x, count(timer), counts[k]);
        }
        duePort("it was cleared twice", x, PENDING, equalBit(timer));
    }

    private static void neverTicksWithLowBitsZero(int timer) {
        TickController x = timed(timer, 255, 0, 0xFC);
        pass(x, 3000);
        duePort("all bits but the low ones", x, count(timer), 255);
        duePort("all bits but the low ones", x, PENDING, 0);
        dueState("all bits but the low ones", x, EDGES, 0);
    }

    /** At 255 with compare 255 and bit 2 the count becomes 0 because it is equal, not because it goes up. */
    private static void clearingIsNoOverflow(int timer) {
        TickController x = timed(timer, 255, 255, 1 + CLEARS);
        pass(x, 1);
        duePort("cleared from 255", x, count(timer), 0);
        duePort("cleared from 255", x, PENDING, 0);
    }

    private static void wrapsTwice(int timer) {
        TickController x = machine(program(out(count(timer) + 2, 7), out(count(timer) + 1, 1 + OVERFLOW_ENABLED),
                code(SEI, 0, 0, SLEEP, 0, 0, JMP, 0, 5, RETI, 0, 0)));
        x.vector(2 * timer + 1, 7);
        pass(x, 3 + 255);
        duePort("255", x, count(timer), 255);
        pass(x, 1 + 3);
        dueState("the first 0", x, TAKEN, 1);
        pass(x, 256 - 1 - 3);
        duePort("255 again", x, count(timer), 255);
        dueState("255 again", x, TAKEN, 1);
        pass(x, 1 + 3);
        dueState("the second 0", x, TAKEN, 2);
    }

    private static void equalEachTimeRound(int timer) {
        TickController x = timed(timer, 0, 100, 1 + TURNS);
        pass(x, 100);
        dueState("the first time", x, EDGES, 1);
        pass(x, 255);
        dueState("a cycle before the second time", x, EDGES, 1);
        pass(x, 1);
        dueState("the second time", x, EDGES, 2);
    }

    private static void pinIsTurnedWhereverItWas(int timer) {
        TickController x = machine(program(out(OUTPUT, 255), out(count(timer) + 2, 5), out(count(timer) + 1, 1 + TURNS),
                code(SLEEP, 0, 0)));
        pass(x, 5 + 4);
        duePort("before", x, OUTPUT, 255);
        dueState("before", x, EDGES, 8);
        pass(x, 1);
        duePort("turned to 0", x, OUTPUT, 255 - (1 << timer));
        dueState("turned to 0", x, EDGES, 9);
    }

    /** They are equal by OUT of the compare value when no tick comes: the pin stays, as nothing becomes pending. */
    private static void pinIsNotTurnedByOut(int timer) {
        TickController x = machine(program(out(count(timer) + 1, 3 + TURNS), out(count(timer), 9),
                out(count(timer) + 2, 9), code(SLEEP, 0, 0)));
        pass(x, 15);
        duePort("equal without a tick", x, OUTPUT, 0);
        duePort("equal without a tick", x, PENDING, 0);
        pass(x, 1);
        duePort("a tick away from it", x, count(timer), 10);
        duePort("a tick away from it", x, OUTPUT, 0);
    }
}
