/** Promise 4: power. */
final class PowerTest extends TestBase {
    public static void main(String[] args) {
        powerBeginsAnew();
        powerKeepsWhatStays();
        powerEndsWhatIsUnderWay();
        powerForgetsResets();
        powerWakesFromHalt();
        powerWakesFromSleep();
        powerOnANewObject();
        powerForgetsThePinsInterrupt();
        powerEmptiesAFullStack();
        powerWhileStoringStoresNothing();
        powerKeepsTheWholeStore();
        powerKeepsEachAnalogValue();
        powerKeepsEachVector();
        powerForgetsEachByteOnTheLine();
        end();
    }

    /** A machine with next to nothing as it was at power; it sleeps from T = 1073 on. */
    private static TickController busyMachine() {
        TickController x = machine(program(
                out(A_COUNT, 5), out(A_COMPARE, 9), out(A_CONTROL, 1), out(B_COUNT, 6), out(B_COMPARE, 20),
                out(B_CONTROL, 1), out(DIVIDER, 1), out(SERIAL_DATA, 77), out(OUTPUT, 5), out(CONVERTER, 6),
                out(STORE_ADDRESS, 3), out(STORE_DATA, 44), out(STORE_CONTROL, 8), out(SERIAL_CONTROL, 24),
                out(MASK, 255), out(WATCHDOG, 7), code(ST, 7, 31, ST, 7, 0, MOV, 0, 7, LDI, 6, 1, SHR, 6, 0,
                PUSH, 7, 0, SEI, 0, 0, DJNZ, 1, 39, SEI, 0, 0, SLEEP, 0, 0)));
        for (int k = 0; k <= 8; k++) {
            x.vector(k, 39);
        }
        return x;
    }

    private static void powerBeginsAnew() {
        TickController x = busyMachine();
        pass(x, 1200);
        x.receive(12);
        x.receive(13);
        int[] states = {42, Z + C + I, 3, ASLEEP, 0, 2, 1200, 2};
        for (int what = 0; what <= 7; what++) {
            dueState("before power", x, what, states[what]);
        }
        due("before power: sent", x.sent(), 1);
        due("before power: memory 31", x.memory(31), 7);
        due("before power: memory 0", x.memory(0), 7);
        dueRegister("before power", x, 0, 7);
        x.power();
        dueAsAtPower("power again", x);
        duePort("power again", x, OUTPUT, 0);
        duePort("power again", x, CLOCK, 0);
    }

    private static void powerKeepsWhatStays() {
        TickController x = busyMachine();
        pass(x, 1200);
        x.analog(2, 200);
        x.pins(170);
        x.power();
        duePort("power again", x, INPUT, 170);
        due("power again: stored(3)", x.stored(3), 44);
        due("power again: load", x.load(LDI, 0, 0), 42);
        pass(x, 1200);
        duePort("power again, program anew", x, RESULT, 200);
        due("power again, program anew: line(0)", x.line(0), 77);
        due("power again, program anew: sent()", x.sent(), 1);
        x.receive(1);
        pass(x, 3);
        dueState("power again, vector kept", x, PC, 39);
        dueState("power again, vector kept", x, TAKEN, 3);
    }

    private static void powerEndsWhatIsUnderWay() {
        TickController x = machine(program(out(SERIAL_DATA, 1), out(STORE_DATA, 9), out(CONVERTER, 4),
                code(SLEEP, 0, 0)));
        x.analog(0, 3);
        pass(x, 7);
        x.power();
        dueAsAtPower("power while all are at work", x);
        pass(x, 8);
        due("sent a cycle before its time", x.sent(), 0);
        pass(x, 1);
        due("sent", x.sent(), 1);
        pass(x, 42 - 9);
        due("stored a cycle before its time", x.stored(0), 0);
        pass(x, 1);
        due("stored", x.stored(0), 9);
        pass(x, 56 - 43);
        duePort("a cycle before its time", x, RESULT, 0);
        pass(x, 1);
        duePort("converted", x, RESULT, 3);
    }

    private static void powerForgetsResets() {
        TickController x = machine(program(out(WATCHDOG, 1), code(SLEEP, 0, 0)));
        pass(x, 40);
        dueState("before power", x, RESETS, 1);
        x.power();
        dueAsAtPower("power after a reset", x);
    }

    private static void powerWakesFromHalt() {
        TickController x = machine(LDI, 0, 3);
        due("run to the end", x.run(10), 1);
        dueState("at the end", x, MODE, HALTED);
        x.load(LDI, 1, 4);
        due("halted for good", x.run(10), 0);
        x.power();
        due("run after power", x.run(10), 2);
        dueRegister("run after power", x, 1, 4);
    }

    private static void powerWakesFromSleep() {
        TickController x = machine(SLEEP, 0, 0);
        pass(x, 10);
        dueState("before power", x, MODE, ASLEEP);
        x.power();
        dueAsAtPower("power while asleep", x);
    }

    private static void powerOnANewObject() {
        TickController x = new TickController();
        String before = snapshot(x);
        x.power();
        dueSame("power of a new object", x, before);
        due("power of a new object: load", x.load(LDI, 0, 0), 0);
    }

    /** Port 11 doesn't show interrupt 8, so the program enables it after power: it must not be taken. */
    private static void powerForgetsThePinsInterrupt() {
        TickController x = machine(program(out(MASK, 1), code(SEI, 0, 0, JMP, 0, 3)));
        pass(x, 2);
        due("pins(1)", x.pins(1), true);
        x.power();
        pass(x, 3 + 10);
        dueState("pins changed before power", x, TAKEN, 0);
        due("pins(0)", x.pins(0), true);
        pass(x, 3);
        dueState("pins changed after power", x, TAKEN, 1);
    }

    private static void powerEmptiesAFullStack() {
        TickController x = machine(CALL, 0, 0);
        due("CALL without end", x.run(1000), 3 * 16);
        dueState("CALL without end", x, MODE, HALTED);
        x.power();
        dueAsAtPower("power with a full stack", x);
        due("CALL without end again", x.run(1000), 3 * 16);
    }

    private static void powerWhileStoringStoresNothing() {
        TickController x = machine(program(out(STORE_DATA, 9), code(SLEEP, 0, 0)));
        pass(x, 1 + 39);
        duePort("a cycle before it is stored", x, STORE_CONTROL, 0);
        x.power();
        duePort("power while storing", x, STORE_CONTROL, 1);
        pass(x, 1);
        due("the cycle in which it would be stored: stored(0)", x.stored(0), 0);
        duePort("the cycle in which it would be stored", x, PENDING, 0);
    }

    /** Stores 16 - k at each k, from 0 up; a round of the loop takes 47 cycles. */
    private static void powerKeepsTheWholeStore() {
        TickController x = machine(LDI, 0, 16, LDI, 2, 1, OUT, 1, STORE_ADDRESS, OUT, 0, STORE_DATA, LDI, 3, 21,
                DJNZ, 3, 5, ADD, 1, 2, DJNZ, 0, 2, SLEEP, 0, 0);
        pass(x, 2 + 16 * 47 + 50);
        x.power();
        for (int k = 0; k < 16; k++) {
            due("power: stored(" + k + ")", x.stored(k), 16 - k);
        }
    }

    private static void powerKeepsEachAnalogValue() {
        for (int c = 0; c < 4; c++) {
            TickController x = machine(program(out(CONVERTER, 4 + c), code(SLEEP, 0, 0)));
            x.analog(c, 90 + c);
            pass(x, 10);
            x.power();
            pass(x, 53);
            duePort("channel " + c + " after power", x, RESULT, 90 + c);
        }
    }

    private static void powerKeepsEachVector() {
        for (int k = 0; k <= 8; k++) {
            TickController x = allPendingOneEnabled(k);
            x.vector(k, 30 + k);
            x.power();
            takeTheOne(x);
            dueState("vector " + k + " after power", x, PC, 30 + k);
        }
    }

    private static void powerForgetsEachByteOnTheLine() {
        TickController x = machine(LDI, 0, 34, OUT, 0, SERIAL_DATA, LDI, 1, 4, DJNZ, 1, 3, DJNZ, 0, 1, SLEEP, 0, 0);
        pass(x, 34 * 11 + 20);
        due("before power: sent()", x.sent(), 34);
        due("before power: line(31)", x.line(31), 3);
        x.power();
        due("after power: sent()", x.sent(), 0);
        for (int k = 0; k < 34; k++) {
            due("after power: line(" + k + ")", x.line(k), -1);
        }
    }
}
