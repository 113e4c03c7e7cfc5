/** The serial line: sending, the divider, receiving. */
final class SerialTest extends TestBase {
    public static void main(String[] args) {
        sendingTime();
        dividerCountsWhenSendingBegins();
        outWhileSendingDoesNothing();
        outInTheVeryNextCycle();
        sentInterrupt();
        receptionInterrupt();
        controlReads();
        dataReads();
        end();
    }

    private static void sendingTime() {
        int[] dividers = {0, 1, 2, 7, 255};
        for (int d : dividers) {
            TickController x = machine(program(out(DIVIDER, d), out(SERIAL_DATA, 65), code(SLEEP, 0, 0)));
            pass(x, 3 + 8 * (d + 1) - 1);
            due("divider " + d + ", a cycle before: sent()", x.sent(), 0);
            due("divider " + d + ", a cycle before: line(0)", x.line(0), -1);
            duePort("divider " + d + ", a cycle before", x, SERIAL_CONTROL, 0);
            duePort("divider " + d + ", a cycle before", x, PENDING, 0);
            pass(x, 1);
            due("divider " + d + ": sent()", x.sent(), 1);
            due("divider " + d + ": line(0)", x.line(0), 65);
            duePort("divider " + d, x, SERIAL_CONTROL, 1);
            duePort("divider " + d, x, PENDING, 32);
            pass(x, 3000);
            due("divider " + d + ", long after: sent()", x.sent(), 1);
        }
    }

    private static void dividerCountsWhenSendingBegins() {
        TickController x = machine(program(out(SERIAL_DATA, 1), out(DIVIDER, 9), code(SLEEP, 0, 0)));
        pass(x, 1 + 7);
        due("divider changed, a cycle before", x.sent(), 0);
        pass(x, 1);
        due("divider changed", x.sent(), 1);
    }

    private static void outWhileSendingDoesNothing() {
        TickController x = machine(program(out(SERIAL_DATA, 1), out(SERIAL_DATA, 2), code(SLEEP, 0, 0)));
        pass(x, 9);
        due("the first", x.line(0), 1);
        pass(x, 100);
        due("the second is lost", x.sent(), 1);
        duePort("data reads as received", x, SERIAL_DATA, 0);
    }

    /** The second OUT that counts stands eight cycles after the first, when the byte is just on the line. */
    private static void outInTheVeryNextCycle() {
        TickController early = outTwice(SERIAL_DATA, 6);
        due("second byte a cycle too early: sent()", early.sent(), 1);
        due("second byte a cycle too early: line(1)", early.line(1), -1);
        TickController inTime = outTwice(SERIAL_DATA, 7);
        due("second byte just in time: sent()", inTime.sent(), 2);
        due("second byte just in time: line(1)", inTime.line(1), 2);
    }

    private static void sentInterrupt() {
        TickController x = machine(program(out(SERIAL_CONTROL, 16), code(SEI, 0, 0), out(SERIAL_DATA, 1),
                code(SLEEP, 0, 0)));
        x.vector(5, 20);
        x.receive(4);
        pass(x, 4 + 8 + 3);
        dueState("sent", x, PC, 20);
        dueState("sent", x, TAKEN, 1);
        duePort("reception is not enabled", x, PENDING, 16);
    }

    private static void receptionInterrupt() {
        TickController x = machine(program(out(SERIAL_CONTROL, 8), code(SEI, 0, 0), out(SERIAL_DATA, 1),
                code(SLEEP, 0, 0)));
        x.vector(4, 20);
        pass(x, 20);
        dueState("sent is not enabled", x, MODE, ASLEEP);
        duePort("sent is not enabled", x, PENDING, 32);
        x.receive(4);
        pass(x, 3);
        dueState("received", x, PC, 20);
    }

    private static void controlReads() {
        TickController x = machine(program(out(SERIAL_CONTROL, 8), out(SERIAL_DATA, 1),
                code(IN, 0, SERIAL_CONTROL, IN, 1, SERIAL_CONTROL, SLEEP, 0, 0)));
        duePort("at power", x, SERIAL_CONTROL, 1);
        x.receive(9);
        x.receive(9);
        pass(x, 4);
        duePort("sending, received, overrun", x, SERIAL_CONTROL, 2 + 4 + 8);
        pass(x, 2);
        dueRegister("overrun is read", x, 0, 2 + 4 + 8);
        dueRegister("overrun is 0 then", x, 1, 2 + 8);
        x.receive(9);
        duePort("overrun again", x, SERIAL_CONTROL, 2 + 4 + 8);
        pass(x, 20);
        duePort("sent", x, SERIAL_CONTROL, 1 + 2 + 4 + 8);
    }

    private static void dataReads() {
        TickController x = machine(IN, 0, SERIAL_DATA, IN, 1, SERIAL_DATA, IN, 2, SERIAL_CONTROL, SLEEP, 0, 0);
        pass(x, 1);
        dueRegister("none was ever received", x, 0, 0);
        x.receive(44);
        x.receive(45);
        pass(x, 2);
        dueRegister("received", x, 1, 44);
        dueRegister("IN of data leaves overrun", x, 2, 1 + 4);
        duePort("the byte stays to be read", x, SERIAL_DATA, 44);
        duePort("IN leaves it pending", x, PENDING, 16);
    }
}
