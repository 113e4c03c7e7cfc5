/** Which ports keep what is written, and which don't. */
final class PortsTest extends TestBase {
    public static void main(String[] args) {
        writtenAndRead();
        lowBitsOfSerialControl();
        resultIsNotWritten();
        inputPinsAreNotWritten();
        timeIsNotWritten();
        nothingAboveNineteenIsWritten();
        outChangesNoOtherPort();
        portsAboveNineteen();
        portsAboveNineteenShowNoOther();
        pendingPort();
        pendingPortLeavesEight();
        pendingPortWithoutBits();
        pendingPortBitByBit();
        clockPort();
        inGivesWhatPortAnswers();
        end();
    }

    private static void writtenAndRead() {
        int[] whole = {A_COUNT, A_CONTROL, A_COMPARE, B_COUNT, B_CONTROL, B_COMPARE, DIVIDER, OUTPUT, WATCHDOG,
            MASK};
        for (int p : whole) {
            dueWritten(p, 0xC0, 0xC0);
            dueWritten(p, 0x18, 0x18);
        }
        dueWritten(SERIAL_CONTROL, 255, 24 + 1);
        dueWritten(SERIAL_CONTROL, 8, 8 + 1);
        dueWritten(SERIAL_CONTROL, 16, 16 + 1);
        dueWritten(SERIAL_CONTROL, 7, 1);
        dueWritten(CONVERTER, 255, 255);
        dueWritten(CONVERTER, 0xFB, 0xFB);
        dueWritten(STORE_ADDRESS, 255, 15);
        dueWritten(STORE_ADDRESS, 16 + 5, 5);
        dueWritten(STORE_CONTROL, 255, 8 + 1);
        dueWritten(STORE_CONTROL, 7, 1);
    }

    /** Writes to one port; it reads as due, and all others but the clock read as at power. */
    private static void dueWritten(int p, int value, int want) {
        TickController x = machine(out(p, value));
        x.run(2);
        duePort("written " + value, x, p, want);
        for (int other = 0; other <= 19; other++) {
            if (other != p && other != CLOCK) {
                int power = other == SERIAL_CONTROL || other == STORE_CONTROL ? 1 : 0;
                duePort("written " + value + " to " + p, x, other, power);
            }
        }
    }

    /** Bits 0 to 2 are what the line does; neither 0 nor 1 in them changes that. */
    private static void lowBitsOfSerialControl() {
        int[] written = {0, 7};
        for (int v : written) {
            TickController x = machine(program(out(SERIAL_CONTROL, v)));
            pass(x, 2);
            duePort("nothing sent or received, written " + v, x, SERIAL_CONTROL, 1);
            TickController y = machine(program(out(SERIAL_DATA, 65), out(SERIAL_CONTROL, v), code(SLEEP, 0, 0)));
            y.receive(8);
            y.receive(9);
            pass(y, 4);
            duePort("sending, RECEIVED and OVERRUN, written " + v, y, SERIAL_CONTROL, 2 + 4);
            due("RECEIVED, written " + v, y.receive(10), false);
            pass(y, 8 - 3);
            due("sent, written " + v, y.line(0), 65);
            duePort("sent, written " + v, y, SERIAL_CONTROL, 1 + 2 + 4);
        }
    }

    private static void resultIsNotWritten() {
        TickController x = new TimedProgram().out(1, CONVERTER, 4).out(60, RESULT, 0).out(70, RESULT, 255).sleeping();
        x.analog(0, 77);
        pass(x, 61);
        duePort("OUT of 0", x, RESULT, 77);
        pass(x, 10);
        duePort("OUT of 255", x, RESULT, 77);
    }

    private static void inputPinsAreNotWritten() {
        TickController x = machine(program(out(MASK, 255), out(INPUT, 255), out(INPUT, 0),
                code(SEI, 0, 0, SLEEP, 0, 0)));
        x.pins(0x33);
        pass(x, 4);
        duePort("OUT of 255", x, INPUT, 0x33);
        pass(x, 2);
        duePort("OUT of 0", x, INPUT, 0x33);
        pass(x, 10);
        dueState("no pin has changed", x, TAKEN, 0);
        dueState("no pin has changed", x, EDGES, 0);
    }

    private static void timeIsNotWritten() {
        TickController x = machine(program(out(CLOCK, 200), out(CLOCK, 0), code(SLEEP, 0, 0)));
        pass(x, 2);
        dueState("OUT of 200", x, TIME, 2);
        duePort("OUT of 200", x, CLOCK, 2);
        pass(x, 2);
        dueState("OUT of 0", x, TIME, 4);
        duePort("OUT of 0", x, CLOCK, 4);
    }

    /** Beside an OUT to port 15, which has no effect either, all is the same. */
    private static void nothingAboveNineteenIsWritten() {
        TickController still = machine(out(CLOCK, 255));
        pass(still, 2);
        String due = snapshot(still);
        for (int p = 20; p < 32; p++) {
            TickController x = machine(out(p, 255));
            pass(x, 2);
            dueSame("OUT to " + p, x, due);
        }
    }

    /** Next to no port is as at power when T is 99, and no timer runs. */
    private static TickController beforeOut(int p, int value) {
        TickController x = new TimedProgram().out(1, CONVERTER, 4 + 2).out(3, STORE_ADDRESS, 9)
                .out(5, STORE_DATA, 0x5A).out(7, A_COUNT, 0x11).out(9, A_COMPARE, 0x22).out(11, B_COUNT, 0x33)
                .out(13, B_COMPARE, 0x44).out(15, DIVIDER, 0x66).out(17, MASK, 0x77).out(19, OUTPUT, 0x88)
                .out(21, SERIAL_CONTROL, 8).out(99, p, value).sleeping();
        x.analog(2, 0x99);
        x.pins(0xAA);
        x.receive(0xBB);
        pass(x, 99);
        duePort("before OUT to " + p, x, STORE_DATA, 0x5A);
        duePort("before OUT to " + p, x, RESULT, 0x99);
        return x;
    }

    /** Beside the port itself: OUT of the store's address shows another byte, OUT of both datas begins work. */
    private static boolean mayChange(int port, int written) {
        return port == written || port == CLOCK
                || (written == STORE_ADDRESS && port == STORE_DATA)
                || (written == STORE_DATA && port == STORE_CONTROL)
                || (written == SERIAL_DATA && port == SERIAL_CONTROL);
    }

    private static void outChangesNoOtherPort() {
        int[] values = {0, 0x18, 0xA8, 0xFC};
        for (int p = 0; p < 32; p++) {
            for (int value : values) {
                TickController x = beforeOut(p, value);
                int[] before = new int[20];
                for (int q = 0; q < 20; q++) {
                    before[q] = x.port(q);
                }
                int edges = x.state(EDGES);
                pass(x, 1);
                for (int q = 0; q < 20; q++) {
                    if (!mayChange(q, p)) {
                        duePort("OUT of " + value + " to " + p, x, q, before[q]);
                    }
                }
                dueState("OUT of " + value + " to " + p, x, TAKEN, 0);
                dueState("OUT of " + value + " to " + p, x, FLAGS, 0);
                dueState("OUT of " + value + " to " + p, x, EDGES,
                        edges + (p == OUTPUT ? Integer.bitCount(before[OUTPUT] ^ value) : 0));
            }
        }
    }

    private static void portsAboveNineteen() {
        for (int p = 20; p < 32; p++) {
            TickController x = machine(LDI, 0, 255, OUT, 0, p, IN, 0, p);
            pass(x, 2);
            duePortsAsAtPower("OUT to " + p, x);
            duePort("OUT to " + p, x, OUTPUT, 0);
            pass(x, 1);
            dueRegister("IN of " + p, x, 0, 0);
        }
    }

    private static void portsAboveNineteenShowNoOther() {
        for (int p = 20; p < 32; p++) {
            TickController x = new TimedProgram().out(1, A_COUNT, 0x11).out(3, A_CONTROL, 0x24).out(5, A_COMPARE, 0x22)
                    .out(7, B_COUNT, 0x33).out(9, B_CONTROL, 0x24).out(11, B_COMPARE, 0x44).out(13, DIVIDER, 0x66)
                    .out(15, SERIAL_CONTROL, 24).out(17, CONVERTER, 0xF3).out(19, OUTPUT, 0x88).out(21, WATCHDOG, 0xF8)
                    .out(23, STORE_ADDRESS, 9).out(25, MASK, 0x77).at(26, LDI, 1, 99).at(27, IN, 1, p).sleeping();
            x.pins(0xAA);
            x.receive(0xBB);
            pass(x, 27);
            dueRegister("before IN of " + p, x, 1, 99);
            pass(x, 1);
            dueRegister("IN of " + p, x, 1, 0);
        }
    }

    /** Timers A and B make 0 to 3 pending, the call 4. */
    private static void pendingPort() {
        TickController x = machine(program(out(A_COUNT, 255), out(B_COUNT, 255), out(A_CONTROL, 1),
                out(B_CONTROL, 1), code(IN, 1, PENDING), out(PENDING, 0b11000110), code(IN, 2, PENDING)));
        x.receive(1);
        x.run(12);
        dueRegister("all of them", x, 1, 0b11111);
        dueRegister("some of them cleared", x, 2, 0b11001);
        duePort("some of them cleared", x, PENDING, 0b11001);
    }

    private static void pendingPortLeavesEight() {
        TickController x = machine(program(out(MASK, 1), out(PENDING, 255), code(SEI, 0, 0, JMP, 0, 5)));
        x.run(2);
        x.pins(1);
        duePort("interrupt 8", x, PENDING, 0);
        pass(x, 3 + 3);
        dueState("interrupt 8 after OUT of 255", x, TAKEN, 1);
    }

    private static void pendingPortWithoutBits() {
        TickController x = machine(program(out(PENDING, 0), code(SLEEP, 0, 0)));
        x.receive(1);
        pass(x, 2);
        duePort("OUT of 0", x, PENDING, 16);
    }

    /** All eight are pending when T is 60; each OUT makes one of them not pending, and none comes again. */
    private static void pendingPortBitByBit() {
        for (int k = 0; k < 8; k++) {
            TickController x = new TimedProgram().out(1, CONVERTER, 4).out(3, STORE_DATA, 1).out(5, SERIAL_DATA, 1)
                    .out(7, A_COUNT, 255).out(9, B_COUNT, 255).out(11, A_CONTROL, 1).out(13, B_CONTROL, 1)
                    .out(60, PENDING, 1 << k).sleeping();
            x.receive(1);
            pass(x, 60);
            duePort("all eight", x, PENDING, 255);
            pass(x, 1);
            duePort("bit " + k + " written", x, PENDING, 255 - (1 << k));
        }
    }

    private static void clockPort() {
        TickController x = machine(SLEEP, 0, 0);
        int[] ends = {1, 255, 256, 257, 600};
        for (int time : ends) {
            x.run(time - x.state(TIME));
            duePort("T = " + time, x, CLOCK, time % 256);
        }
    }

    private static void inGivesWhatPortAnswers() {
        int[] setting = program(out(A_COUNT, 1), out(A_COMPARE, 2), out(B_COUNT, 3), out(B_COMPARE, 4),
                out(SERIAL_CONTROL, 24), out(DIVIDER, 5), out(CONVERTER, 14), out(OUTPUT, 6), out(WATCHDOG, 7),
                out(STORE_ADDRESS, 8), out(STORE_CONTROL, 8), out(MASK, 9));
        for (int p = 0; p <= 19; p++) {
            TickController x = machine(program(setting, code(IN, 0, p)));
            x.pins(77);
            x.receive(66);
            x.receive(65);
            x.run(24);
            int answer = x.port(p);
            x.run(1);
            dueRegister("IN of port " + p, x, 0, answer);
        }
    }
}
