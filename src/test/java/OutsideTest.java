/** Promises 6 to 8: pins, analog, receive. */
final class OutsideTest extends TestBase {
    public static void main(String[] args) {
        pinsAreAByte();
        pinsWithoutAMask();
        pinsWithAMask();
        pinsAnswerWhenPendingAlready();
        eachPinHasItsOwnMaskBit();
        pinsThatStayDoNothing();
        analogChannels();
        refusedAnalogChangesNothing();
        analogValuesAreBytes();
        receivedByteIsAByte();
        secondByteIsLost();
        lostByteChangesNothingButOverrun();
        readDataLeavesOverrun();
        readOverrunStillLosesBytes();
        lostByteMakesNothingPending();
        readingMakesRoom();
        haltedMachineStillReceives();
        end();
    }

    private static void pinsAreAByte() {
        TickController x = new TickController();
        int[] values = {0, 1, 255, 256, 511, -1, -256, 0x12345678, Integer.MIN_VALUE, Integer.MAX_VALUE};
        for (int v : values) {
            due("pins(" + v + ")", x.pins(v), false);
            duePort("pins(" + v + ")", x, INPUT, v & 255);
        }
    }

    private static void pinsWithoutAMask() {
        TickController x = machine(SEI, 0, 0, JMP, 0, 1);
        x.run(1);
        due("pins(255) without a mask", x.pins(255), false);
        x.run(10);
        dueState("pins without a mask", x, TAKEN, 0);
    }

    private static void pinsWithAMask() {
        TickController x = machine(program(out(MASK, 0b1010), code(SLEEP, 0, 0)));
        x.run(3);
        due("a pin beside the mask", x.pins(0b0101), false);
        due("a pin of the mask goes up", x.pins(0b0111), true);
        due("no change", x.pins(0b0111), false);
        due("no change but above the byte", x.pins(0b0111 + 256), false);
        due("a pin of the mask goes down", x.pins(0b0101), true);
        due("both sorts change", x.pins(0b1000), true);
    }

    private static void pinsAnswerWhenPendingAlready() {
        TickController x = machine(program(out(MASK, 1), code(SEI, 0, 0, JMP, 0, 3)));
        x.vector(8, 3);
        x.run(2);
        due("first change", x.pins(1), true);
        due("second change, pending already", x.pins(0), true);
        pass(x, 1 + 3 + 2 + 2);
        dueState("two changes, one interrupt", x, TAKEN, 1);
    }

    private static void eachPinHasItsOwnMaskBit() {
        for (int bit = 0; bit < 8; bit++) {
            TickController x = machine(program(out(MASK, 1 << bit), code(SLEEP, 0, 0)));
            x.run(3);
            for (int pin = 0; pin < 8; pin++) {
                due("mask bit " + bit + ", pin " + pin + " up", x.pins(1 << pin), pin == bit);
                due("mask bit " + bit + ", pin " + pin + " down", x.pins(0), pin == bit);
            }
            due("mask bit " + bit + ", all others up", x.pins(255 - (1 << bit)), false);
            due("mask bit " + bit + ", all turned", x.pins(1 << bit), true);
        }
    }

    private static void pinsThatStayDoNothing() {
        TickController x = machine(program(out(MASK, 255), code(SEI, 0, 0, SLEEP, 0, 0)));
        x.pins(0x5A);
        x.run(10);
        String before = snapshot(x);
        due("the same pins", x.pins(0x5A), false);
        due("the same pins, more bits", x.pins(0x15A), false);
        due("the same pins, below 0", x.pins(0x5A - 256), false);
        dueSame("the same pins", x, before);
        pass(x, 10);
        dueState("the same pins", x, TAKEN, 0);
    }

    private static void analogChannels() {
        TickController x = new TickController();
        for (int c = 0; c < 4; c++) {
            due("analog(" + c + ", 1)", x.analog(c, 1), true);
        }
        int[] wrongOnes = {-1, 4, 5, 256, Integer.MIN_VALUE, Integer.MAX_VALUE};
        for (int c : wrongOnes) {
            due("analog(" + c + ", 1)", x.analog(c, 1), false);
        }
    }

    private static void refusedAnalogChangesNothing() {
        int[] wrongOnes = {-1, -4, 4, 5, 7, 8, 256, Integer.MIN_VALUE, Integer.MAX_VALUE};
        for (int c = 0; c < 4; c++) {
            TickController x = machine(program(out(CONVERTER, 4 + c), code(SLEEP, 0, 0)));
            x.analog(c, 60 + c);
            String before = snapshot(x);
            for (int wrong : wrongOnes) {
                due("analog(" + wrong + ", 9)", x.analog(wrong, 9), false);
            }
            dueSame("refused analog values", x, before);
            pass(x, 53);
            duePort("channel " + c + " after refused ones", x, RESULT, 60 + c);
        }
    }

    private static void analogValuesAreBytes() {
        int[] values = {0, 255, 256 + 17, -1, Integer.MIN_VALUE + 3};
        for (int c = 0; c < 4; c++) {
            for (int v : values) {
                TickController x = machine(program(out(CONVERTER, 4 + c), code(SLEEP, 0, 0)));
                for (int other = 0; other < 4; other++) {
                    x.analog(other, 100 + other);
                }
                x.analog(c, v);
                x.run(60);
                duePort("analog(" + c + ", " + v + ")", x, RESULT, v & 255);
            }
        }
    }

    private static void receivedByteIsAByte() {
        int[] values = {0, 33, 255, 256, 300, -1, Integer.MIN_VALUE + 5};
        for (int v : values) {
            TickController x = new TickController();
            due("receive(" + v + ")", x.receive(v), true);
            duePort("receive(" + v + ")", x, SERIAL_DATA, v & 255);
            duePort("receive(" + v + ")", x, SERIAL_CONTROL, 1 + 2);
            duePort("receive(" + v + ")", x, PENDING, 16);
        }
    }

    private static void secondByteIsLost() {
        TickController x = new TickController();
        x.receive(1);
        due("receive(2) after receive(1)", x.receive(2), false);
        duePort("a lost byte", x, SERIAL_DATA, 1);
        duePort("a lost byte", x, SERIAL_CONTROL, 1 + 2 + 4);
        due("receive(3) after both", x.receive(3), false);
        duePort("two lost bytes", x, SERIAL_DATA, 1);
    }

    private static void lostByteChangesNothingButOverrun() {
        TickController x = machine(program(out(SERIAL_CONTROL, 24), code(SLEEP, 0, 0)));
        pass(x, 5);
        due("receive(1)", x.receive(1), true);
        String before = snapshot(x);
        due("receive(2)", x.receive(2), false);
        dueSame("a lost byte", x, before.replace(" p7=27", " p7=31"));
        duePort("a lost byte", x, SERIAL_CONTROL, 24 + 1 + 2 + 4);
    }

    /** OVERRUN is of the byte that was lost; it stays until IN of control, though the next one isn't lost. */
    private static void readDataLeavesOverrun() {
        TickController x = machine(IN, 0, SERIAL_DATA, IN, 1, SERIAL_CONTROL, SLEEP, 0, 0);
        x.receive(1);
        x.receive(2);
        pass(x, 1);
        dueRegister("the first byte", x, 0, 1);
        duePort("IN of data", x, SERIAL_CONTROL, 1 + 4);
        due("the third byte", x.receive(3), true);
        duePort("the third byte", x, SERIAL_DATA, 3);
        duePort("the third byte", x, SERIAL_CONTROL, 1 + 2 + 4);
        pass(x, 1);
        duePort("IN of control", x, SERIAL_CONTROL, 1 + 2);
    }

    private static void readOverrunStillLosesBytes() {
        TickController x = machine(IN, 1, SERIAL_CONTROL, SLEEP, 0, 0);
        x.receive(1);
        x.receive(2);
        pass(x, 1);
        duePort("IN of control", x, SERIAL_CONTROL, 1 + 2);
        due("IN of control makes no room", x.receive(3), false);
        duePort("IN of control makes no room", x, SERIAL_DATA, 1);
        duePort("IN of control makes no room", x, SERIAL_CONTROL, 1 + 2 + 4);
    }

    private static void lostByteMakesNothingPending() {
        TickController x = machine(program(out(PENDING, 16), code(SLEEP, 0, 0)));
        x.receive(1);
        x.run(2);
        duePort("pending no more", x, PENDING, 0);
        x.receive(2);
        duePort("a lost byte", x, PENDING, 0);
    }

    private static void readingMakesRoom() {
        TickController x = machine(IN, 0, SERIAL_DATA, SLEEP, 0, 0);
        x.receive(1);
        x.run(1);
        dueRegister("IN of data", x, 0, 1);
        duePort("IN of data", x, SERIAL_CONTROL, 1);
        due("receive after IN", x.receive(2), true);
        duePort("receive after IN", x, SERIAL_DATA, 2);
    }

    private static void haltedMachineStillReceives() {
        TickController x = machine(out(MASK, 1));
        x.run(10);
        dueState("ran out", x, MODE, HALTED);
        due("pins(1) halted", x.pins(1), true);
        due("receive(5) halted", x.receive(5), true);
        due("analog(0, 5) halted", x.analog(0, 5), true);
        duePort("halted", x, SERIAL_DATA, 5);
        duePort("halted", x, INPUT, 1);
    }
}
