/** Promises 1 to 3: a new object, load, vector. */
final class BeginningTest extends TestBase {
    public static void main(String[] args) {
        newObjectIsAllZero();
        newObjectHasNoProgram();
        newObjectHasVectorsZero();
        newObjectHasAnalogValuesZero();
        loadAnswersNumbers();
        loadRefusesWrongOperations();
        refusedLoadChangesNothing();
        loadRefusesTheFortyNinth();
        refusedFortyNinthChangesNothing();
        loadTakesAnyOperands();
        loadGoesOnAfterRunning();
        vectorRanges();
        vectorsAtBothEndsAreTaken();
        vectorBeyondTheProgram();
        refusedVectorChangesNothing();
        refusedVectorsChangeNoOther();
        everyVectorIsItsOwn();
        end();
    }

    private static void newObjectIsAllZero() {
        TickController x = new TickController();
        dueAsAtPower("new", x);
        duePort("new", x, OUTPUT, 0);
        duePort("new", x, INPUT, 0);
        duePort("new", x, CLOCK, 0);
        for (int k = 0; k < 16; k++) {
            due("new: stored(" + k + ")", x.stored(k), 0);
        }
    }

    private static void newObjectHasNoProgram() {
        TickController x = new TickController();
        dueState("no program, before a run", x, MODE, RUNNING);
        due("no program: run(5)", x.run(5), 0);
        dueState("no program, after a run", x, MODE, HALTED);
        dueState("no program, after a run", x, PC, 0);
    }

    private static void newObjectHasVectorsZero() {
        for (int k = 0; k <= 8; k++) {
            TickController x = allPendingOneEnabled(k);
            takeTheOne(x);
            dueState("vector " + k + " of a new object", x, PC, 0);
            dueState("vector " + k + " of a new object", x, TAKEN, 1);
        }
    }

    private static void newObjectHasAnalogValuesZero() {
        for (int c = 0; c < 4; c++) {
            TickController x = machine(program(out(CONVERTER, 4 + c), code(SLEEP, 0, 0)));
            pass(x, 53);
            duePort("channel " + c + " of a new object", x, PENDING, 64);
            duePort("channel " + c + " of a new object", x, RESULT, 0);
        }
    }

    private static void loadAnswersNumbers() {
        TickController x = new TickController();
        for (int op = 0; op <= 26; op++) {
            due("load of operation " + op, x.load(op, 0, 0), op);
        }
    }

    private static void loadRefusesWrongOperations() {
        TickController x = new TickController();
        int[] wrongOnes = {-1, 27, 28, 255, 256, Integer.MIN_VALUE, Integer.MAX_VALUE};
        for (int op : wrongOnes) {
            due("load(" + op + ", 0, 0)", x.load(op, 0, 0), -1);
        }
        due("first load after refused ones", x.load(LDI, 0, 7), 0);
        x.run(1);
        dueRegister("first load after refused ones", x, 0, 7);
        due("a run over refused ones", x.run(1), 0);
    }

    private static void refusedLoadChangesNothing() {
        int[] wrongOnes = {-1, 27, Integer.MIN_VALUE, Integer.MAX_VALUE};
        for (int op : wrongOnes) {
            TickController x = machine(LDI, 0, 7, LDI, 1, 8, SLEEP, 0, 0);
            pass(x, 1);
            String before = snapshot(x);
            due("load(" + op + ", 1, 9)", x.load(op, 1, 9), -1);
            dueSame("load(" + op + ", 1, 9)", x, before);
            pass(x, 1);
            dueRegister("the next instruction after load(" + op + ", 1, 9)", x, 1, 8);
            due("load after load(" + op + ", 1, 9)", x.load(LDI, 0, 0), 3);
        }
    }

    private static void loadRefusesTheFortyNinth() {
        TickController x = new TickController();
        for (int k = 0; k < 48; k++) {
            due("load number " + k, x.load(LDI, 0, k), k);
        }
        due("load of the 49th", x.load(LDI, 0, 99), -1);
        due("load of a 49th wrong one", x.load(27, 0, 0), -1);
        due("run through 48", x.run(100), 48);
        dueRegister("48 instructions", x, 0, 47);
        dueState("48 instructions", x, PC, 48);
    }

    private static void refusedFortyNinthChangesNothing() {
        TickController x = new TickController();
        for (int k = 0; k < 48; k++) {
            x.load(LDI, k & 7, 100 + k);
        }
        pass(x, 20);
        String before = snapshot(x);
        due("the 49th", x.load(LDI, 0, 1), -1);
        due("the 50th", x.load(JMP, 0, 0), -1);
        dueSame("the 49th and the 50th", x, before);
        due("the 28 that are left", x.run(100), 28);
        for (int r = 0; r < 8; r++) {
            dueRegister("48 instructions", x, r, 140 + r);
        }
        x.power();
        due("the 49th after power", x.load(LDI, 0, 1), -1);
    }

    private static void loadTakesAnyOperands() {
        TickController x = new TickController();
        due("load(0, least, greatest)", x.load(LDI, Integer.MIN_VALUE, Integer.MAX_VALUE), 0);
        due("load(0, greatest, least)", x.load(LDI, Integer.MAX_VALUE, Integer.MIN_VALUE + 5), 1);
        due("load(0, -2, -2)", x.load(LDI, -2, -2), 2);
        pass(x, 3);
        dueRegister("least and greatest", x, 0, 255);
        dueRegister("greatest and least", x, 7, 5);
        dueRegister("-2 and -2", x, 6, 254);
    }

    private static void loadGoesOnAfterRunning() {
        TickController x = machine(LDI, 0, 1);
        pass(x, 1);
        due("load after a run", x.load(LDI, 0, 2), 1);
        pass(x, 1);
        dueRegister("load after a run", x, 0, 2);
    }

    private static void vectorRanges() {
        TickController x = new TickController();
        for (int k = 0; k <= 8; k++) {
            due("vector(" + k + ", 0)", x.vector(k, 0), true);
            due("vector(" + k + ", 47)", x.vector(k, 47), true);
        }
        int[][] wrongOnes = {{-1, 0}, {9, 0}, {0, -1}, {0, 48}, {8, 48}, {9, 48}, {Integer.MAX_VALUE, 1},
            {Integer.MIN_VALUE, 1}, {1, Integer.MAX_VALUE}, {1, Integer.MIN_VALUE}};
        for (int[] w : wrongOnes) {
            due("vector(" + w[0] + ", " + w[1] + ")", x.vector(w[0], w[1]), false);
        }
    }

    private static void vectorsAtBothEndsAreTaken() {
        int[] ends = {0, 47};
        for (int k = 0; k <= 8; k++) {
            for (int at : ends) {
                TickController x = allPendingOneEnabled(k);
                x.vector(k, 47 - at);
                x.vector(k, at);
                takeTheOne(x);
                dueState("vector(" + k + ", " + at + ")", x, PC, at);
            }
        }
    }

    /** A vector may point where no instruction is: the interrupt is taken, and then the machine halts. */
    private static void vectorBeyondTheProgram() {
        TickController x = allPendingOneEnabled(3);
        due("vector(3, 27)", x.vector(3, 27), true);
        takeTheOne(x);
        dueState("at a vector without an instruction", x, MODE, RUNNING);
        due("run(5) at a vector without an instruction", x.run(5), 0);
        dueState("at a vector without an instruction", x, MODE, HALTED);
        dueState("at a vector without an instruction", x, PC, 27);
        dueState("at a vector without an instruction", x, TAKEN, 1);
    }

    private static void refusedVectorChangesNothing() {
        TickController x = allPendingOneEnabled(4);
        x.vector(4, 30);
        x.vector(4, 48);
        x.vector(4, -1);
        takeTheOne(x);
        dueState("refused vector", x, PC, 30);
    }

    private static void refusedVectorsChangeNoOther() {
        int[][] wrongOnes = {{-1, 5}, {9, 5}, {17, 5}, {256, 5}, {Integer.MIN_VALUE, 5}, {Integer.MAX_VALUE, 5}};
        for (int k = 0; k <= 8; k++) {
            TickController x = allPendingOneEnabled(k);
            x.vector(k, 30 + k);
            for (int[] w : wrongOnes) {
                due("vector(" + w[0] + ", " + w[1] + ")", x.vector(w[0], w[1]), false);
            }
            due("vector(" + k + ", 48)", x.vector(k, 48), false);
            takeTheOne(x);
            dueState("vector " + k + " after refused ones", x, PC, 30 + k);
        }
    }

    private static void everyVectorIsItsOwn() {
        for (int k = 0; k <= 8; k++) {
            TickController x = allPendingOneEnabled(k);
            for (int v = 0; v <= 8; v++) {
                x.vector(v, 30 + v);
            }
            takeTheOne(x);
            dueState("interrupt " + k, x, PC, 30 + k);
            dueState("interrupt " + k, x, TAKEN, 1);
        }
    }
}
