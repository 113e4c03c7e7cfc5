/** Promise 5: run. */
final class RunTest extends TestBase {
    public static void main(String[] args) throws ReflectiveOperationException {
        wrongNumbersDoNothing();
        edgesOfTheNumber();
        refusedNumbersChangeNothing();
        answersUpToTwoMoreThanAsked();
        passesAtLeastSoMany();
        anInterruptIsAStepOfItsOwn();
        cyclesAsleepPassOneByOne();
        answersLessIfHalted();
        haltedAnswersZero();
        wrongNumbersWhileHalted();
        goesOnWhereItStood();
        manyRunsCountOn();
        greatestTime();
        end();
    }

    private static TickController threeCycleLoop() {
        return machine(CALL, 0, 1, RET, 0, 0);
    }

    private static void wrongNumbersDoNothing() {
        int[] wrongOnes = {0, -1, 3001, Integer.MAX_VALUE, Integer.MIN_VALUE};
        for (int n : wrongOnes) {
            TickController x = machine(LDI, 0, 5, JMP, 0, 1);
            due("run(" + n + ")", x.run(n), -1);
            dueAsAtPower("after run(" + n + ")", x);
        }
    }

    private static void edgesOfTheNumber() {
        TickController x = machine(LDI, 0, 5, SLEEP, 0, 0);
        due("run(1)", x.run(1), 1);
        dueState("run(1)", x, PC, 1);
        due("run(3000)", x.run(3000), 3000);
        dueState("run(3000)", x, TIME, 3001);
    }

    private static void passesAtLeastSoMany() {
        TickController x = threeCycleLoop();
        due("run(1) at a CALL", x.run(1), 3);
        due("run(2) at a RET", x.run(2), 3);
        dueState("after CALL and RET", x, PC, 1);
        TickController y = machine(LDI, 0, 1, JMP, 0, 1);
        due("run(2) over LDI and JMP", y.run(2), 3);
        due("run(4) over two JMPs", y.run(4), 4);
        due("run(5) over three JMPs", y.run(5), 6);
    }

    private static void refusedNumbersChangeNothing() {
        int[] wrongOnes = {0, -1, 3001, Integer.MAX_VALUE, Integer.MIN_VALUE};
        for (int n : wrongOnes) {
            TickController x = machine(program(out(A_CONTROL, 1), out(SERIAL_DATA, 5), out(WATCHDOG, 1),
                    code(SLEEP, 0, 0)));
            pass(x, 8);
            String before = snapshot(x);
            due("run(" + n + ")", x.run(n), -1);
            dueSame("run(" + n + ")", x, before);
            pass(x, 1);
            duePort("a cycle after run(" + n + ")", x, A_COUNT, 8);
        }
    }

    /** A byte is sent when T is 5 + 8 * 256 = 2053; the interrupt that comes then takes three cycles. */
    private static void answersUpToTwoMoreThanAsked() {
        int[][] askedAndDue = {{2052, 2052}, {2053, 2053}, {2054, 2056}, {2055, 2056}, {2056, 2056}, {2057, 2057}};
        for (int[] n : askedAndDue) {
            TickController x = machine(program(out(SERIAL_CONTROL, 16), code(SEI, 0, 0), out(DIVIDER, 255),
                    code(OUT, 0, SERIAL_DATA, SLEEP, 0, 0)));
            x.vector(5, 6);
            due("run(" + n[0] + ")", x.run(n[0]), n[1]);
            dueState("run(" + n[0] + ")", x, TIME, n[1]);
            dueState("run(" + n[0] + ")", x, TAKEN, n[0] > 2053 ? 1 : 0);
        }
        TickController y = machine(LDI, 0, 0, JMP, 0, 1);
        due("run(3000) over LDI and JMPs", y.run(3000), 3001);
        due("run(2999) over JMPs", y.run(2999), 3000);
    }

    private static void anInterruptIsAStepOfItsOwn() {
        TickController x = machine(program(out(SERIAL_CONTROL, 8), code(SEI, 0, 0, LDI, 0, 1, LDI, 0, 2)));
        x.vector(4, 4);
        pass(x, 3);
        x.receive(9);
        due("run(1) at an interrupt", x.run(1), 3);
        dueState("run(1) at an interrupt", x, PC, 4);
        dueRegister("run(1) at an interrupt", x, 0, 0);
        pass(x, 1);
        dueRegister("after the interrupt", x, 0, 2);
    }

    private static void cyclesAsleepPassOneByOne() {
        TickController x = machine(SLEEP, 0, 0);
        for (int n = 1; n <= 50; n++) {
            due("run(" + n + ") asleep", x.run(n), n);
        }
        dueState("asleep", x, TIME, 50 * 51 / 2);
    }

    private static void answersLessIfHalted() {
        TickController x = machine(LDI, 0, 1, ST, 0, 1, LDI, 0, 2);
        due("run(100) of four cycles", x.run(100), 4);
        dueState("run(100) of four cycles", x, MODE, HALTED);
        dueState("run(100) of four cycles", x, TIME, 4);
        TickController y = machine(LDI, 0, 1, ST, 0, 1, LDI, 0, 2);
        due("run(4) of four cycles", y.run(4), 4);
        dueState("run(4) of four cycles", y, MODE, RUNNING);
        due("run(1) at the end", y.run(1), 0);
        dueState("run(1) at the end", y, MODE, HALTED);
    }

    private static void haltedAnswersZero() {
        TickController x = machine(LDI, 0, 1);
        x.run(3);
        due("run of a halted one", x.run(3000), 0);
        dueState("run of a halted one", x, TIME, 1);
    }

    private static void wrongNumbersWhileHalted() {
        TickController x = new TickController();
        x.run(1);
        due("run(0) of a halted one", x.run(0), -1);
        due("run(3001) of a halted one", x.run(3001), -1);
    }

    private static void goesOnWhereItStood() {
        TickController x = machine(LDI, 0, 1, LDI, 0, 2, LDI, 0, 3, LDI, 0, 4);
        for (int k = 1; k <= 4; k++) {
            pass(x, 1);
            dueRegister("step " + k, x, 0, k);
            dueState("step " + k, x, PC, k);
        }
    }

    private static void manyRunsCountOn() {
        TickController x = machine(SLEEP, 0, 0);
        for (int k = 1; k <= 400; k++) {
            pass(x, 3000);
        }
        dueState("400 runs", x, TIME, 1200000);
        duePort("400 runs", x, CLOCK, 1200000 & 255);
    }

    /** So great a T is beyond what 512 calls can reach, so it is put into the field that holds it. */
    private static void greatestTime() throws ReflectiveOperationException {
        TickController x = machine(SLEEP, 0, 0);
        pass(x, 777);
        setFieldsOf(x, 777, 999999999);
        dueState("T is put into the object", x, TIME, 999999999);
        due("run(1) just below the greatest T", x.run(1), 1);
        due("run(1) at the greatest T", x.run(1), 1);
        dueState("run(1) at the greatest T", x, TIME, 1000000001);
        String before = snapshot(x);
        due("run(1) above it", x.run(1), -1);
        due("run(3000) above it", x.run(3000), -1);
        dueSame("run above it", x, before);
        x.power();
        pass(x, 1);
    }

    private static void setFieldsOf(TickController x, int old, int value) throws ReflectiveOperationException {
        for (java.lang.reflect.Field f : TickController.class.getDeclaredFields()) {
            f.setAccessible(true);
            if (f.getType() == int.class && f.getInt(x) == old) {
                f.setInt(x, value);
            }
            if (f.getType() == long.class && f.getLong(x) == old) {
                f.setLong(x, value);
            }
        }
    }
}
