/** The watchdog, what a reset leaves, and the order of things that come in one cycle. */
final class WatchdogTest extends TestBase {
    public static void main(String[] args) {
        lengths();
        lengthNone();
        otherBitsAreNoLength();
        wdrBeginsAnew();
        outBeginsAnew();
        outOfNoneEndsIt();
        lengthNoneNeverResets();
        lengthNoneAfterAlmostAll();
        wdrAfterLengthNone();
        lengthWrittenAnewCounts();
        sleepsUntilTheWatchdog();
        resetsAgainAndAgain();
        resetOfEachPort();
        wdrWithoutAWatchdog();
        resetEndsIt();
        resetOfTheProcessor();
        resetKeepsTheRest();
        resetKeepsAnalogValues();
        resetOfThePorts();
        resetEndsAllWork();
        resetForgetsThePinsInterrupt();
        resetWakes();
        resetInsideAnInstruction();
        resetInsideAnInterrupt();
        inOneCycleTheWatchdogIsLast();
        timersComeBeforeIt();
        end();
    }

    private static void lengths() {
        for (int k = 1; k <= 7; k++) {
            TickController x = machine(program(out(WATCHDOG, k), code(SLEEP, 0, 0)));
            int length = 1 << (k + 4);
            pass(x, length);
            dueState("length " + k + ", a cycle before", x, RESETS, 0);
            dueState("length " + k + ", a cycle before", x, PC, 3);
            duePort("length " + k + ", a cycle before", x, WATCHDOG, k);
            pass(x, 1);
            dueState("length " + k, x, RESETS, 1);
            dueState("length " + k, x, PC, 0);
            duePort("length " + k, x, WATCHDOG, 0);
            dueState("length " + k, x, TIME, 1 + length);
        }
    }

    private static void lengthNone() {
        TickController x = machine(program(out(WATCHDOG, 0), code(SLEEP, 0, 0)));
        pass(x, 3000);
        pass(x, 3000);
        dueState("length 0", x, RESETS, 0);
    }

    private static void otherBitsAreNoLength() {
        TickController x = machine(program(out(WATCHDOG, 0xF8), code(SLEEP, 0, 0)));
        pass(x, 3000);
        dueState("length 0 and other bits", x, RESETS, 0);
        TickController y = machine(program(out(WATCHDOG, 0xF9), code(SLEEP, 0, 0)));
        pass(y, 33);
        dueState("length 1 and other bits", y, RESETS, 1);
    }

    /** WDR each 3 cycles; then sleep. */
    private static void wdrBeginsAnew() {
        TickController x = machine(program(out(WATCHDOG, 1), code(WDR, 0, 0, DJNZ, 0, 2, SLEEP, 0, 0)));
        int wdr = 2 + 255 * 3;
        pass(x, wdr + 31);
        dueState("31 cycles after the last WDR", x, RESETS, 0);
        pass(x, 1);
        dueState("32 cycles after the last WDR", x, RESETS, 1);
    }

    private static void outBeginsAnew() {
        TickController x = machine(program(out(WATCHDOG, 1), code(OUT, 7, WATCHDOG, DJNZ, 0, 2, SLEEP, 0, 0)));
        int out = 2 + 255 * 3;
        pass(x, out + 31);
        dueState("31 cycles after the last OUT", x, RESETS, 0);
        pass(x, 1);
        dueState("32 cycles after the last OUT", x, RESETS, 1);
        TickController y = machine(program(out(WATCHDOG, 1), code(LDI, 0, 8, DJNZ, 0, 3), out(WATCHDOG, 2),
                code(SLEEP, 0, 0)));
        pass(y, 2 + 1 + 15 + 1 + 63);
        dueState("another length, a cycle before", y, RESETS, 0);
        pass(y, 1);
        dueState("another length", y, RESETS, 1);
    }

    private static void outOfNoneEndsIt() {
        TickController x = machine(program(out(WATCHDOG, 1), out(WATCHDOG, 0), code(SLEEP, 0, 0)));
        pass(x, 3000);
        dueState("ended by OUT of 0", x, RESETS, 0);
    }

    /** All of the port's bits but 0 to 2, and all the cycles that a run can have. */
    private static void lengthNoneNeverResets() {
        int[] none = {0, 8, 0x80, 0xF8};
        for (int v : none) {
            TickController x = machine(program(out(WATCHDOG, v), code(SLEEP, 0, 0)));
            for (int k = 0; k < 20; k++) {
                pass(x, 3000);
            }
            dueState("port " + v, x, RESETS, 0);
            dueState("port " + v, x, MODE, ASLEEP);
            duePort("port " + v, x, WATCHDOG, v);
        }
    }

    private static void lengthNoneAfterAlmostAll() {
        TickController x = new TimedProgram().out(1, WATCHDOG, 1).out(32, WATCHDOG, 0).sleeping();
        pass(x, 3000);
        dueState("0 in the 32nd cycle", x, RESETS, 0);
        TickController y = new TimedProgram().out(1, WATCHDOG, 1).out(33, WATCHDOG, 0).sleeping();
        pass(y, 33);
        dueState("0 in the 33rd cycle", y, RESETS, 1);
    }

    private static void wdrAfterLengthNone() {
        TickController x = new TimedProgram().out(1, WATCHDOG, 1).out(5, WATCHDOG, 0).at(9, WDR, 0, 0).sleeping();
        pass(x, 3000);
        dueState("WDR after 0", x, RESETS, 0);
    }

    /** The time begins anew with the length that is written last, be it longer or shorter. */
    private static void lengthWrittenAnewCounts() {
        for (int first = 1; first <= 7; first++) {
            for (int second = 1; second <= 7; second++) {
                TickController x = new TimedProgram().out(1, WATCHDOG, first).out(30, WATCHDOG, second).sleeping();
                pass(x, 30 + (16 << second) - 1);
                dueState(first + ", then " + second + ", a cycle before", x, RESETS, 0);
                pass(x, 1);
                dueState(first + ", then " + second, x, RESETS, 1);
            }
        }
    }

    /** "If I is 0 then it sleeps until the watchdog": an enabled interrupt that is pending doesn't wake it. */
    private static void sleepsUntilTheWatchdog() {
        TickController x = machine(program(out(WATCHDOG, 7), out(SERIAL_CONTROL, 8), code(SLEEP, 0, 0)));
        x.vector(4, 30);
        x.receive(1);
        pass(x, 1 + 2047);
        dueState("a cycle before", x, MODE, ASLEEP);
        dueState("a cycle before", x, PC, 5);
        duePort("a cycle before", x, PENDING, 16);
        pass(x, 1);
        dueState("the watchdog", x, MODE, RUNNING);
        dueState("the watchdog", x, PC, 0);
        dueState("the watchdog", x, TAKEN, 0);
        duePort("the watchdog", x, PENDING, 0);
        pass(x, 1);
        dueState("it goes on at 0", x, PC, 1);
    }

    private static void resetsAgainAndAgain() {
        TickController x = machine(program(out(WATCHDOG, 1), code(SLEEP, 0, 0)));
        for (int k = 1; k <= 40; k++) {
            pass(x, 33);
            dueState("reset number " + k, x, RESETS, k);
            dueState("reset number " + k, x, PC, 0);
        }
        dueState("forty resets", x, TIME, 40 * 33);
    }

    /** Each port by itself, so that none of them hides behind another one. */
    private static void resetOfEachPort() {
        int[] written = {A_COUNT, A_CONTROL, A_COMPARE, B_COUNT, B_CONTROL, B_COMPARE, SERIAL_DATA, SERIAL_CONTROL,
            DIVIDER, CONVERTER, STORE_ADDRESS, STORE_DATA, STORE_CONTROL, MASK};
        for (int p : written) {
            TickController x = machine(program(out(WATCHDOG, 1), out(p, 0xDC), code(SLEEP, 0, 0)));
            pass(x, 33);
            dueState("port " + p + " written, then reset", x, RESETS, 1);
            duePortsAsAtPower("port " + p + " written, then reset", x);
            duePort("port " + p + " written, then reset", x, STORE_DATA, 0);
            duePort("port " + p + " written, then reset", x, OUTPUT, 0);
        }
    }

    private static void wdrWithoutAWatchdog() {
        TickController x = machine(WDR, 0, 0, SLEEP, 0, 0);
        pass(x, 3000);
        dueState("WDR alone", x, RESETS, 0);
    }

    /** The program would set it again, but it jumps over that when register 0 isn't 0. */
    private static void resetEndsIt() {
        TickController x = machine(program(code(ADD, 0, 0, JZ, 0, 3, SLEEP, 0, 0, LDI, 0, 1), out(WATCHDOG, 1),
                code(SLEEP, 0, 0)));
        pass(x, 200);
        dueState("after one reset", x, RESETS, 1);
        dueState("after one reset", x, PC, 3);
        dueState("after one reset", x, MODE, ASLEEP);
    }

    /** The watchdog begins at T = 1 and is due at T = 33; at T = 15 all is set. */
    private static TickController beforeReset() {
        TickController x = machine(program(out(WATCHDOG, 1), code(LDI, 1, 55, ST, 1, 4, PUSH, 1, 0, PUSH, 1, 0,
                LDI, 2, 1, SHR, 2, 0, SEI, 0, 0), out(OUTPUT, 0x21), code(SLEEP, 0, 0)));
        x.pins(0x42);
        return x;
    }

    private static void resetOfTheProcessor() {
        TickController x = beforeReset();
        pass(x, 32);
        dueState("a cycle before", x, FLAGS, Z + C + I);
        dueState("a cycle before", x, DEPTH, 2);
        pass(x, 1);
        int[] want = {0, Z + C, 0, RUNNING, 1, 0, 33, 2};
        for (int what = 0; what <= 7; what++) {
            dueState("reset", x, what, want[what]);
        }
    }

    private static void resetKeepsTheRest() {
        TickController x = beforeReset();
        pass(x, 33);
        dueRegister("reset", x, 1, 55);
        dueRegister("reset", x, 7, 0x21);
        due("reset: memory(4)", x.memory(4), 55);
        duePort("reset", x, OUTPUT, 0x21);
        duePort("reset", x, INPUT, 0x42);
        duePort("reset", x, CLOCK, 33);
        dueState("reset", x, EDGES, 2);
        TickController y = machine(program(out(SERIAL_DATA, 9), out(WATCHDOG, 1), code(SLEEP, 0, 0)));
        pass(y, 35);
        dueState("reset", y, RESETS, 1);
        due("the line goes on: line(0)", y.line(0), 9);
        due("the line goes on: sent()", y.sent(), 1);
    }

    /** The second time round register 0 isn't 0, and the converter is started instead of the watchdog. */
    private static void resetKeepsAnalogValues() {
        TickController x = machine(program(code(ADD, 0, 0, JZ, 0, 5), out(CONVERTER, 4),
                code(SLEEP, 0, 0, LDI, 0, 1), out(WATCHDOG, 1), code(SLEEP, 0, 0)));
        x.analog(0, 7);
        pass(x, 37 + 3 + 52);
        dueState("analog values go on", x, RESETS, 1);
        duePort("analog values go on", x, RESULT, 7);
    }

    private static void resetOfThePorts() {
        TickController x = machine(program(out(WATCHDOG, 2), out(A_COUNT, 1), out(A_COMPARE, 40),
                out(A_CONTROL, 1), out(B_COUNT, 2), out(B_COMPARE, 50), out(B_CONTROL, 1), out(CONVERTER, 7),
                out(STORE_ADDRESS, 3), out(STORE_DATA, 44), out(STORE_CONTROL, 8), out(SERIAL_CONTROL, 24),
                out(MASK, 255), out(DIVIDER, 200), out(SERIAL_DATA, 6), code(SLEEP, 0, 0)));
        x.receive(9);
        x.receive(8);
        x.analog(3, 33);
        pass(x, 30);
        x.pins(1);
        pass(x, 1 + 63 - 30);
        duePort("a cycle before", x, PENDING, 1 + 4 + 16 + 128);
        duePort("a cycle before", x, SERIAL_CONTROL, 2 + 4 + 24);
        pass(x, 1);
        dueState("reset", x, RESETS, 1);
        duePortsAsAtPower("reset", x);
        due("reset: stored(3)", x.stored(3), 44);
    }

    /** Each round is reset after 33 cycles, before any of the three works is done. */
    private static void resetEndsAllWork() {
        TickController x = machine(program(out(WATCHDOG, 1), out(STORE_DATA, 5), out(DIVIDER, 3),
                out(SERIAL_DATA, 6), out(CONVERTER, 4), code(SLEEP, 0, 0)));
        x.analog(0, 9);
        pass(x, 300);
        dueState("nine rounds", x, RESETS, 9);
        due("nothing is stored", x.stored(0), 0);
        due("nothing is sent", x.sent(), 0);
        duePort("nothing is converted", x, RESULT, 0);
    }

    /** The second time round register 0 isn't 0, and I becomes 1; interrupt 8 was pending before the reset. */
    private static void resetForgetsThePinsInterrupt() {
        TickController x = machine(program(out(MASK, 1), out(WATCHDOG, 1), code(ADD, 0, 0, JZ, 0, 8, SEI, 0, 0,
                SLEEP, 0, 0, LDI, 0, 1, SLEEP, 0, 0)));
        pass(x, 20);
        due("pins(1)", x.pins(1), true);
        pass(x, 35);
        dueState("after the reset", x, RESETS, 1);
        dueState("after the reset", x, PC, 8);
        dueState("after the reset", x, TAKEN, 0);
    }

    private static void resetWakes() {
        TickController x = machine(program(out(WATCHDOG, 1), code(SLEEP, 0, 0)));
        pass(x, 32);
        dueState("asleep", x, MODE, ASLEEP);
        pass(x, 1);
        dueState("awake", x, MODE, RUNNING);
        pass(x, 1);
        dueState("from 0 on", x, PC, 1);
    }

    /** CALL's three cycles are 32 to 34, of which the second resets: PC stays 0, and the third still passes. */
    private static void resetInsideAnInstruction() {
        TickController x = machine(program(out(WATCHDOG, 1), code(LDI, 0, 14, DJNZ, 0, 3, LDI, 1, 1, CALL, 0, 9)));
        pass(x, 2 + 1 + 27 + 1);
        due("CALL", x.run(1), 3);
        dueState("reset inside CALL", x, TIME, 34);
        dueState("reset inside CALL", x, RESETS, 1);
        dueState("reset inside CALL", x, PC, 0);
        dueState("reset inside CALL", x, DEPTH, 0);
    }

    private static void resetInsideAnInterrupt() {
        TickController x = machine(program(out(WATCHDOG, 1), out(SERIAL_CONTROL, 8), code(SEI, 0, 0,
                SLEEP, 0, 0)));
        x.vector(4, 9);
        pass(x, 31);
        x.receive(1);
        due("the interrupt", x.run(1), 3);
        dueState("reset inside an interrupt", x, TIME, 34);
        dueState("reset inside an interrupt", x, TAKEN, 1);
        dueState("reset inside an interrupt", x, PC, 0);
        dueState("reset inside an interrupt", x, DEPTH, 0);
        dueState("reset inside an interrupt", x, FLAGS, 0);
    }

    /** Converter (begun at T = 13), store (25), serial (57) and watchdog (1) all come at T = 65. */
    private static void inOneCycleTheWatchdogIsLast() {
        TickController x = machine(program(out(WATCHDOG, 2), code(LDI, 0, 5, DJNZ, 0, 3), out(CONVERTER, 4),
                code(LDI, 0, 5, DJNZ, 0, 7), out(STORE_DATA, 44), code(LDI, 0, 15, DJNZ, 0, 11),
                out(SERIAL_DATA, 67), code(SLEEP, 0, 0)));
        x.analog(0, 9);
        pass(x, 64);
        due("a cycle before: sent()", x.sent(), 0);
        due("a cycle before: stored(0)", x.stored(0), 0);
        dueState("a cycle before", x, RESETS, 0);
        duePort("a cycle before", x, PENDING, 0);
        pass(x, 1);
        dueState("all at once", x, RESETS, 1);
        due("all at once: sent()", x.sent(), 1);
        due("all at once: line(0)", x.line(0), 67);
        due("all at once: stored(0)", x.stored(0), 44);
        duePortsAsAtPower("all at once", x);
    }

    /** In the cycle of the reset timer A still turns its pin; its interrupt is pending no more. */
    private static void timersComeBeforeIt() {
        TickController x = machine(program(out(WATCHDOG, 1), out(A_CONTROL, 1 + 4 + 32), code(SLEEP, 0, 0)));
        pass(x, 32);
        dueState("a cycle before", x, EDGES, 32 - 3);
        pass(x, 1);
        dueState("reset", x, EDGES, 33 - 3);
        duePort("reset", x, PENDING, 0);
        pass(x, 1);
        dueState("after it", x, EDGES, 33 - 3);
    }
}
