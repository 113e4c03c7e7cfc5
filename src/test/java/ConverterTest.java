/** The converter. */
final class ConverterTest extends TestBase {
    private static final int START = 4, ENABLED = 8;

    public static void main(String[] args) {
        conversionTime();
        valueThenCounts();
        noStartWithoutBitTwo();
        secondStartHasNoEffect();
        channelWrittenMeanwhileCounts();
        clearingBitTwoMeanwhileHasNoEffect();
        startAgain();
        startInTheVeryNextCycle();
        startWhileAtWorkDoesNotBeginAnew();
        enablingWrittenMeanwhileCounts();
        disablingWrittenMeanwhileCounts();
        highBitsAreRead();
        resultStaysWhileAtWork();
        interruptSix();
        end();
    }

    private static TickController converting(int control, int... more) {
        TickController x = machine(program(out(CONVERTER, control), more, code(SLEEP, 0, 0)));
        for (int c = 0; c < 4; c++) {
            x.analog(c, 50 + c);
        }
        return x;
    }

    private static void conversionTime() {
        for (int c = 0; c < 4; c++) {
            TickController x = converting(START + c);
            pass(x, 1 + 51);
            duePort("a cycle before", x, RESULT, 0);
            duePort("a cycle before", x, CONVERTER, START + c);
            duePort("a cycle before", x, PENDING, 0);
            pass(x, 1);
            duePort("converted", x, RESULT, 50 + c);
            duePort("converted", x, CONVERTER, c);
            duePort("converted", x, PENDING, 64);
        }
    }

    private static void valueThenCounts() {
        TickController x = converting(START);
        pass(x, 1 + 51);
        x.analog(0, 99);
        pass(x, 1);
        duePort("the value then", x, RESULT, 99);
        x.analog(0, 98);
        pass(x, 100);
        duePort("the result stays", x, RESULT, 99);
    }

    private static void noStartWithoutBitTwo() {
        TickController x = converting(255 - START);
        pass(x, 200);
        duePort("bit 2 not set", x, RESULT, 0);
        duePort("bit 2 not set", x, CONVERTER, 255 - START);
    }

    private static void secondStartHasNoEffect() {
        TickController x = converting(START, out(CONVERTER, START));
        pass(x, 1 + 52);
        duePort("started twice", x, RESULT, 50);
        duePort("started twice", x, CONVERTER, 0);
        duePort("started twice", x, PENDING, 64);
        x.analog(0, 77);
        pass(x, 100);
        duePort("started twice, long after", x, RESULT, 50);
    }

    private static void channelWrittenMeanwhileCounts() {
        TickController x = converting(START + 1, out(CONVERTER, START + ENABLED + 2));
        pass(x, 4);
        duePort("written meanwhile", x, CONVERTER, START + ENABLED + 2);
        pass(x, 49);
        duePort("channel written meanwhile", x, RESULT, 52);
        duePort("channel written meanwhile", x, CONVERTER, ENABLED + 2);
    }

    private static void clearingBitTwoMeanwhileHasNoEffect() {
        TickController x = converting(START + 1, out(CONVERTER, 3));
        pass(x, 4);
        duePort("still at work", x, CONVERTER, START + 3);
        pass(x, 49);
        duePort("still at work", x, RESULT, 53);
    }

    private static void startAgain() {
        TickController x = machine(program(out(CONVERTER, START), code(DJNZ, 0, 2), out(CONVERTER, START + 1),
                code(SLEEP, 0, 0)));
        x.analog(0, 5);
        x.analog(1, 6);
        pass(x, 2 + 511 + 1 + 51);
        duePort("the second, a cycle before", x, RESULT, 5);
        pass(x, 1);
        duePort("the second", x, RESULT, 6);
    }

    /** The conversion that begins when T is 1 is at work until T is 53. */
    private static void startInTheVeryNextCycle() {
        TickController x = new TimedProgram().out(1, CONVERTER, START).out(52, CONVERTER, START).sleeping();
        x.analog(0, 5);
        pass(x, 53);
        duePort("a start a cycle too early", x, CONVERTER, 0);
        duePort("a start a cycle too early", x, RESULT, 5);
        x.analog(0, 6);
        pass(x, 100);
        duePort("a start a cycle too early", x, RESULT, 5);
        TickController y = new TimedProgram().out(1, CONVERTER, START).out(53, CONVERTER, START).sleeping();
        y.analog(0, 5);
        pass(y, 54);
        duePort("a start just in time", y, CONVERTER, START);
        y.analog(0, 6);
        pass(y, 50);
        duePort("a start just in time, 51 cycles", y, RESULT, 5);
        pass(y, 1);
        duePort("a start just in time, 52 cycles", y, RESULT, 6);
    }

    private static void startWhileAtWorkDoesNotBeginAnew() {
        int[] times = {3, 20, 51, 52};
        for (int when : times) {
            TickController x = new TimedProgram().out(1, CONVERTER, START).out(when, CONVERTER, START).sleeping();
            x.analog(0, 5);
            pass(x, 52);
            duePort("started again at " + when, x, RESULT, 0);
            x.run(1);
            duePort("started again at " + when, x, RESULT, 5);
            duePort("started again at " + when, x, CONVERTER, 0);
        }
    }

    private static void enablingWrittenMeanwhileCounts() {
        TickController x = new TimedProgram().out(1, CONVERTER, START).out(10, CONVERTER, ENABLED)
                .at(11, SEI, 0, 0).sleeping();
        x.vector(6, 40);
        pass(x, 53 + 3);
        dueState("enabled meanwhile", x, TAKEN, 1);
        dueState("enabled meanwhile", x, PC, 40);
    }

    private static void disablingWrittenMeanwhileCounts() {
        TickController x = new TimedProgram().out(1, CONVERTER, START + ENABLED).out(10, CONVERTER, START)
                .at(11, SEI, 0, 0).sleeping();
        pass(x, 100);
        dueState("disabled meanwhile", x, TAKEN, 0);
        duePort("disabled meanwhile", x, PENDING, 64);
    }

    /** "Control reads as it was last written": bits 4 to 7, which mean nothing, too. */
    private static void highBitsAreRead() {
        TickController x = new TimedProgram().out(1, CONVERTER, 0xF0).out(3, CONVERTER, 0x54).out(5, CONVERTER, 0xA8)
                .sleeping();
        pass(x, 2);
        duePort("not at work", x, CONVERTER, 0xF0);
        pass(x, 2);
        duePort("started", x, CONVERTER, 0x54);
        pass(x, 2);
        duePort("at work", x, CONVERTER, 0xA8 + START);
        pass(x, 100);
        duePort("long after", x, CONVERTER, 0xA8);
    }

    private static void resultStaysWhileAtWork() {
        TickController x = new TimedProgram().out(1, CONVERTER, START).out(60, CONVERTER, START).sleeping();
        x.analog(0, 5);
        pass(x, 59);
        x.analog(0, 255);
        pass(x, 52);
        duePort("the old result until the new one", x, RESULT, 5);
        pass(x, 1);
        duePort("the new result", x, RESULT, 255);
    }

    private static void interruptSix() {
        TickController x = machine(program(code(SEI, 0, 0), out(CONVERTER, START + ENABLED), code(SLEEP, 0, 0)));
        x.vector(6, 20);
        pass(x, 2 + 52 + 3);
        dueState("enabled", x, PC, 20);
        dueState("enabled", x, TAKEN, 1);
        TickController y = machine(program(code(SEI, 0, 0), out(CONVERTER, 255 - ENABLED), code(SLEEP, 0, 0)));
        pass(y, 100);
        dueState("not enabled", y, TAKEN, 0);
        duePort("not enabled", y, PENDING, 64);
    }
}
