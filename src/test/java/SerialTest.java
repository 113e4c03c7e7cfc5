/** The serial line: sending, the divider, receiving. */
final class SerialTest extends TestBase {
    public static void main(String[] args) {
        sendingTime();
        dividerCountsWhenSendingBegins();
        outWhileSendingDoesNothing();
        outInTheVeryNextCycle();
        dividerWrittenWhileSendingCountsForTheNext();
        everyByteIsSent();
        sendingEndsOnlyOnce();
        receivingWhileSending();
        sentInterrupt();
        receptionInterrupt();
        controlReads();
        dataReads();
        zeroIfNoneWasEverReceived();
        sentByteIsNotReceived();
        dataIsReadAgain();
        receivedZeroIsReceived();
        end();
    }

    private static void sendingTime() {
        int[] dividers = {0, 1, 2, 7, 255};
        for (int d : dividers) {
            TickController x = machine(program(out(DIVIDER, d), out(SERIAL_DATA, 65), code(SLEEP, 0, 0)));
            pass(x, 3 + 8 * (d + 1) - 1);
            due("divider " + d + ", a cycle before: sent()", x.sent(), 0);
            due("divider " + d + ", a cycle before: line(0)", x.line(0), -1);
            duePort("divider " + d + ", a cycle before", x, SERIAL_CONTROL, 0);
            duePort("divider " + d + ", a cycle before", x, PENDING, 0);
            pass(x, 1);
            due("divider " + d + ": sent()", x.sent(), 1);
            due("divider " + d + ": line(0)", x.line(0), 65);
            duePort("divider " + d, x, SERIAL_CONTROL, 1);
            duePort("divider " + d, x, PENDING, 32);
            pass(x, 3000);
            due("divider " + d + ", long after: sent()", x.sent(), 1);
        }
    }

    private static void dividerCountsWhenSendingBegins() {
        TickController x = machine(program(out(SERIAL_DATA, 1), out(DIVIDER, 9), code(SLEEP, 0, 0)));
        pass(x, 1 + 7);
        due("divider changed, a cycle before", x.sent(), 0);
        pass(x, 1);
        due("divider changed", x.sent(), 1);
    }

    private static void outWhileSendingDoesNothing() {
        TickController x = machine(program(out(SERIAL_DATA, 1), out(SERIAL_DATA, 2), code(SLEEP, 0, 0)));
        pass(x, 9);
        due("the first", x.line(0), 1);
        pass(x, 100);
        due("the second is lost", x.sent(), 1);
        duePort("data reads as received", x, SERIAL_DATA, 0);
    }

    /** The second OUT that counts stands eight cycles after the first, when the byte is just on the line. */
    private static void outInTheVeryNextCycle() {
        TickController early = outTwice(SERIAL_DATA, 6);
        due("second byte a cycle too early: sent()", early.sent(), 1);
        due("second byte a cycle too early: line(1)", early.line(1), -1);
        TickController inTime = outTwice(SERIAL_DATA, 7);
        due("second byte just in time: sent()", inTime.sent(), 2);
        due("second byte just in time: line(1)", inTime.line(1), 2);
    }

    private static void dividerWrittenWhileSendingCountsForTheNext() {
        TickController x = new TimedProgram().out(1, SERIAL_DATA, 1).out(3, DIVIDER, 1).out(9, SERIAL_DATA, 2)
                .out(11, DIVIDER, 0).sleeping();
        pass(x, 9);
        due("the first, after 8 cycles: sent()", x.sent(), 1);
        pass(x, 15);
        due("the second, after 15 cycles: sent()", x.sent(), 1);
        pass(x, 1);
        due("the second, after 16 cycles: sent()", x.sent(), 2);
        due("the second: line(1)", x.line(1), 2);
    }

    private static void everyByteIsSent() {
        int[] values = {0, 1, 127, 128, 255};
        for (int v : values) {
            TickController x = machine(program(out(SERIAL_DATA, v), code(SLEEP, 0, 0)));
            pass(x, 9);
            due("line(0)", x.line(0), v);
            due("line(1)", x.line(1), -1);
        }
    }

    /** The byte that was refused isn't sent later, and the one being sent isn't begun anew or changed by it. */
    private static void sendingEndsOnlyOnce() {
        for (int when = 3; when <= 8; when++) {
            TickController x = new TimedProgram().out(1, SERIAL_DATA, 65).out(when, SERIAL_DATA, 66).sleeping();
            pass(x, 8);
            due("OUT at " + when + ", a cycle before: sent()", x.sent(), 0);
            duePort("OUT at " + when + ", a cycle before", x, SERIAL_CONTROL, 0);
            x.run(9 - x.state(TIME));
            due("OUT at " + when + ": line(0)", x.line(0), 65);
            duePort("OUT at " + when, x, SERIAL_CONTROL, 1);
            pass(x, 100);
            due("OUT at " + when + ", long after: sent()", x.sent(), 1);
        }
    }

    private static void receivingWhileSending() {
        TickController x = machine(program(out(SERIAL_DATA, 65), code(SLEEP, 0, 0)));
        pass(x, 5);
        due("receive(66) while sending", x.receive(66), true);
        duePort("receive(66) while sending", x, SERIAL_CONTROL, 2);
        duePort("receive(66) while sending", x, SERIAL_DATA, 66);
        pass(x, 4);
        due("sent", x.line(0), 65);
        duePort("sent", x, SERIAL_DATA, 66);
        duePort("sent", x, PENDING, 16 + 32);
    }

    private static void sentInterrupt() {
        TickController x = machine(program(out(SERIAL_CONTROL, 16), code(SEI, 0, 0), out(SERIAL_DATA, 1),
                code(SLEEP, 0, 0)));
        x.vector(5, 20);
        x.receive(4);
        pass(x, 4 + 8 + 3);
        dueState("sent", x, PC, 20);
        dueState("sent", x, TAKEN, 1);
        duePort("reception is not enabled", x, PENDING, 16);
    }

    private static void receptionInterrupt() {
        TickController x = machine(program(out(SERIAL_CONTROL, 8), code(SEI, 0, 0), out(SERIAL_DATA, 1),
                code(SLEEP, 0, 0)));
        x.vector(4, 20);
        pass(x, 20);
        dueState("sent is not enabled", x, MODE, ASLEEP);
        duePort("sent is not enabled", x, PENDING, 32);
        x.receive(4);
        pass(x, 3);
        dueState("received", x, PC, 20);
    }

    private static void controlReads() {
        TickController x = machine(program(out(SERIAL_CONTROL, 8), out(SERIAL_DATA, 1),
                code(IN, 0, SERIAL_CONTROL, IN, 1, SERIAL_CONTROL, SLEEP, 0, 0)));
        duePort("at power", x, SERIAL_CONTROL, 1);
        x.receive(9);
        x.receive(9);
        pass(x, 4);
        duePort("sending, received, overrun", x, SERIAL_CONTROL, 2 + 4 + 8);
        pass(x, 2);
        dueRegister("overrun is read", x, 0, 2 + 4 + 8);
        dueRegister("overrun is 0 then", x, 1, 2 + 8);
        x.receive(9);
        duePort("overrun again", x, SERIAL_CONTROL, 2 + 4 + 8);
        pass(x, 20);
        duePort("sent", x, SERIAL_CONTROL, 1 + 2 + 4 + 8);
    }

    private static void dataReads() {
        TickController x = machine(IN, 0, SERIAL_DATA, IN, 1, SERIAL_DATA, IN, 2, SERIAL_CONTROL, SLEEP, 0, 0);
        pass(x, 1);
        dueRegister("none was ever received", x, 0, 0);
        x.receive(44);
        x.receive(45);
        pass(x, 2);
        dueRegister("received", x, 1, 44);
        dueRegister("IN of data leaves overrun", x, 2, 1 + 4);
        duePort("the byte stays to be read", x, SERIAL_DATA, 44);
        duePort("IN leaves it pending", x, PENDING, 16);
    }

    private static void zeroIfNoneWasEverReceived() {
        TickController x = machine(program(out(SERIAL_DATA, 65), code(LDI, 0, 9, IN, 0, SERIAL_DATA, SLEEP, 0, 0)));
        pass(x, 50);
        dueRegister("a byte was sent, none was received", x, 0, 0);
        duePort("a byte was sent, none was received", x, SERIAL_DATA, 0);
        TickController y = machine(IN, 0, SERIAL_DATA, SLEEP, 0, 0);
        y.receive(7);
        y.power();
        pass(y, 1);
        dueRegister("none since power", y, 0, 0);
    }

    private static void sentByteIsNotReceived() {
        TickController x = machine(program(out(SERIAL_DATA, 255), code(IN, 0, SERIAL_DATA, SLEEP, 0, 0)));
        pass(x, 3);
        dueRegister("none was received", x, 0, 0);
        TickController y = machine(program(out(SERIAL_DATA, 255), code(IN, 0, SERIAL_DATA, SLEEP, 0, 0)));
        y.receive(0x42);
        pass(y, 2);
        duePort("sending", y, SERIAL_CONTROL, 2);
        duePort("sending", y, SERIAL_DATA, 0x42);
        pass(y, 1);
        dueRegister("another was received", y, 0, 0x42);
    }

    /** IN makes RECEIVED 0, but the byte received stays what it was. */
    private static void dataIsReadAgain() {
        TickController x = machine(IN, 0, SERIAL_DATA, IN, 1, SERIAL_DATA, IN, 2, SERIAL_CONTROL);
        x.receive(77);
        pass(x, 3);
        dueRegister("IN once", x, 0, 77);
        dueRegister("IN twice", x, 1, 77);
        dueRegister("RECEIVED is 0", x, 2, 1);
    }

    private static void receivedZeroIsReceived() {
        TickController x = new TickController();
        due("receive(0)", x.receive(0), true);
        duePort("receive(0)", x, SERIAL_CONTROL, 1 + 2);
        due("receive(5)", x.receive(5), false);
        duePort("receive(5)", x, SERIAL_DATA, 0);
    }
}
