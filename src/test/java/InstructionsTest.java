/** The table of instructions: effects, flags and cycles. */
final class InstructionsTest extends TestBase {
    private static final int[] EDGES_OF_BYTES = {0, 1, 2, 127, 128, 129, 254, 255};

    public static void main(String[] args) {
        loadsAndMoves();
        arithmetic();
        wrapsAround();
        carryOfEqualOnes();
        arithmeticOfARegisterWithItself();
        logicKeepsCarry();
        memoryInstructions();
        memoryAtBothEnds();
        operandsAreMasked();
        cycles();
        jumpsTakenAndNot();
        djnz();
        djnzFromZero();
        djnzAllTheWayRound();
        callsAndReturns();
        pushAndPop();
        flagsStay();
        interruptFlag();
        effectComesBeforeItsCycles();
        end();
    }

    /** Runs a program to its end, where it halts. */
    private static TickController ran(int... program) {
        TickController x = machine(program);
        x.run(3000);
        dueState("a program that ends", x, MODE, HALTED);
        return x;
    }

    private static void loadsAndMoves() {
        TickController x = ran(LDI, 0, 17, MOV, 1, 0, LDI, 0, 18);
        dueRegister("LDI twice", x, 0, 18);
        dueRegister("MOV", x, 1, 17);
    }

    private static void arithmetic() {
        for (int p : EDGES_OF_BYTES) {
            for (int q : EDGES_OF_BYTES) {
                dueResult("ADD", ADD, p, q, p + q, p + q > 255);
                dueResult("SUB", SUB, p, q, p - q, q > p);
                dueResult("AND", AND, p, q, p & q, false);
                dueResult("XOR", XOR, p, q, p ^ q, false);
                dueResult("SHR", SHR, p, q, p / 2, p % 2 == 1);
                dueComparison(p, q);
            }
        }
    }

    private static void dueResult(String name, int op, int p, int q, int result, boolean carry) {
        TickController x = ran(LDI, 1, p, LDI, 2, q, op, 1, 2);
        String what = name + " " + p + " " + q;
        dueRegister(what, x, 1, result & 255);
        dueRegister(what, x, 2, q);
        dueState(what, x, FLAGS, ((result & 255) == 0 ? Z : 0) + (carry ? C : 0));
    }

    private static void dueComparison(int p, int q) {
        TickController x = ran(LDI, 1, p, LDI, 2, q, CMP, 1, 2);
        String what = "CMP " + p + " " + q;
        dueRegister(what, x, 1, p);
        dueState(what, x, FLAGS, (p == q ? Z : 0) + (q > p ? C : 0));
    }

    private static void arithmeticOfARegisterWithItself() {
        TickController x = ran(LDI, 1, 200, ADD, 1, 1);
        dueRegister("200 + 200", x, 1, 144);
        dueState("200 + 200", x, FLAGS, C);
        dueState("SUB of itself", ran(LDI, 1, 200, SUB, 1, 1), FLAGS, Z);
        dueState("CMP with itself", ran(LDI, 1, 200, CMP, 1, 1), FLAGS, Z);
    }

    private static void logicKeepsCarry() {
        int[] carryAlone = {LDI, 6, 3, SHR, 6, 0};
        dueState("AND after a carry", ran(program(carryAlone, code(AND, 6, 6))), FLAGS, C);
        dueState("XOR after a carry", ran(program(carryAlone, code(XOR, 6, 6))), FLAGS, Z + C);
        dueState("ADD clears carry", ran(program(carryAlone, code(ADD, 6, 6))), FLAGS, 0);
        dueState("SUB clears carry", ran(program(carryAlone, code(SUB, 6, 6))), FLAGS, Z);
        dueState("CMP clears carry", ran(program(carryAlone, code(CMP, 6, 6))), FLAGS, Z);
        dueState("SHR clears carry", ran(program(carryAlone, code(LDI, 6, 2, SHR, 6, 0))), FLAGS, 0);
    }

    private static void memoryInstructions() {
        TickController x = ran(LDI, 0, 77, ST, 0, 5, LDI, 1, 6, STX, 0, 1, LD, 2, 5, LDI, 3, 5, LDX, 4, 3,
                LD, 5, 7);
        due("ST", x.memory(5), 77);
        due("STX", x.memory(6), 77);
        due("memory beside", x.memory(7), 0);
        dueRegister("LD", x, 2, 77);
        dueRegister("LDX", x, 4, 77);
        dueRegister("LD of nothing", x, 5, 0);
        dueRegister("the indexing register stays", x, 1, 6);
    }

    private static void operandsAreMasked() {
        TickController x = ran(LDI, 8 + 3, 256 + 9, LDI, -1, -1, MOV, 16 + 4, 24 + 3, ST, 3, 32 + 31,
                LD, 5, -32 + 31, LDI, 6, 224 + 30, STX, 8 + 3, 8 + 6, LDX, 1, -2, IN, 0, 32 + CLOCK,
                OUT, 8 + 7, -32 + OUTPUT);
        dueRegister("a and b masked", x, 3, 9);
        dueRegister("-1 masked", x, 7, 255);
        dueRegister("MOV masked", x, 4, 9);
        due("ST masked", x.memory(31), 9);
        dueRegister("LD masked", x, 5, 9);
        due("STX masked", x.memory(30), 9);
        dueRegister("LDX masked", x, 1, 9);
        dueRegister("IN masked", x, 0, 12);
        duePort("OUT masked", x, OUTPUT, 255);
        dueRegister("JMP masked", ran(JMP, 0, 256 + 2, LDI, 0, 1, LDI, 1, 2), 0, 0);
        dueRegister("CALL masked", ran(CALL, 0, -256 + 2, LDI, 0, 1, LDI, 1, 2), 0, 0);
        dueState("JMP 255", ran(JMP, 0, -1), PC, 255);
        dueRegister("PUSH and POP masked", ran(LDI, 2, 5, PUSH, 10, 0, POP, -5, 0), 3, 5);
    }

    private static void cycles() {
        int[] one = {LDI, MOV, ADD, SUB, CMP, AND, XOR, SHR, IN, OUT, SEI, CLI, SLEEP, WDR};
        int[] two = {LD, ST, LDX, STX, JMP, PUSH};
        for (int op : one) {
            due("cycles of operation " + op, machine(op, 0, 0).run(1), 1);
        }
        for (int op : two) {
            due("cycles of operation " + op, machine(op, 0, 0).run(1), 2);
        }
        due("cycles of CALL", machine(CALL, 0, 0).run(1), 3);
        dueCyclesAfterPush("POP", POP, 2);
        dueCyclesAfterPush("RET", RET, 3);
        dueCyclesAfterPush("RETI", RETI, 3);
    }

    private static void dueCyclesAfterPush(String name, int op, int want) {
        TickController x = machine(PUSH, 0, 0, op, 0, 0);
        pass(x, 2);
        due("cycles of " + name, x.run(1), want);
    }

    private static void jumpsTakenAndNot() {
        dueJump("JZ with Z", SUB, 0, 0, JZ, true);
        dueJump("JZ without Z", CMP, 1, 0, JZ, false);
        dueJump("JC with C", CMP, 0, 1, JC, true);
        dueJump("JC without C", CMP, 1, 0, JC, false);
        dueJump("JZ with C alone", CMP, 0, 1, JZ, false);
        dueJump("JC with Z alone", CMP, 0, 0, JC, false);
        dueJump("JMP", CMP, 1, 0, JMP, true);
    }

    private static void dueJump(String name, int op, int a, int b, int jump, boolean taken) {
        TickController x = machine(LDI, 1, 5, op, a, b, jump, 0, 9);
        pass(x, 2);
        due("cycles of " + name, x.run(1), taken ? 2 : 1);
        dueState(name, x, PC, taken ? 9 : 3);
    }

    private static void djnz() {
        TickController x = machine(LDI, 0, 2, DJNZ, 0, 1, LDI, 1, 1);
        pass(x, 1);
        due("cycles of DJNZ taken", x.run(1), 2);
        dueRegister("DJNZ taken", x, 0, 1);
        dueState("DJNZ taken", x, PC, 1);
        due("cycles of DJNZ not taken", x.run(1), 1);
        dueRegister("DJNZ not taken", x, 0, 0);
        dueState("DJNZ not taken", x, PC, 2);
    }

    private static void djnzFromZero() {
        TickController x = machine(DJNZ, 0, 5);
        due("cycles of DJNZ from 0", x.run(1), 2);
        dueRegister("DJNZ from 0", x, 0, 255);
        dueState("DJNZ from 0", x, PC, 5);
        dueState("DJNZ from 0", x, FLAGS, 0);
    }

    /** 255 rounds of two cycles and the last of one. */
    private static void djnzAllTheWayRound() {
        TickController x = machine(DJNZ, 0, 0);
        pass(x, 2 * 255);
        dueRegister("255 rounds", x, 0, 1);
        dueState("255 rounds", x, PC, 0);
        pass(x, 1);
        dueRegister("256 rounds", x, 0, 0);
        dueState("256 rounds", x, PC, 1);
    }

    private static void wrapsAround() {
        dueResult("255 + 1", ADD, 255, 1, 0, true);
        dueResult("255 + 0", ADD, 255, 0, 255, false);
        dueResult("128 + 128", ADD, 128, 128, 0, true);
        dueResult("255 + 255", ADD, 255, 255, 254, true);
        dueResult("0 - 1", SUB, 0, 1, 255, true);
        dueResult("0 - 255", SUB, 0, 255, 1, true);
        dueResult("0 - 0", SUB, 0, 0, 0, false);
        dueResult("SHR of 1", SHR, 1, 9, 0, true);
        dueResult("SHR of 0", SHR, 0, 9, 0, false);
        dueResult("SHR of 255", SHR, 255, 9, 127, true);
    }

    /** "C if rb was greater": an equal one is not greater. */
    private static void carryOfEqualOnes() {
        for (int v : EDGES_OF_BYTES) {
            dueResult("equal ones", SUB, v, v, 0, false);
            dueComparison(v, v);
        }
    }

    private static void memoryAtBothEnds() {
        TickController x = ran(LDI, 0, 11, ST, 0, 0, LDI, 1, 22, ST, 1, 31, LD, 2, 0, LD, 3, 31);
        due("memory 0", x.memory(0), 11);
        due("memory 31", x.memory(31), 22);
        dueRegister("memory 0", x, 2, 11);
        dueRegister("memory 31", x, 3, 22);
        for (int m = 1; m < 31; m++) {
            due("memory " + m, x.memory(m), 0);
        }
    }

    private static void callsAndReturns() {
        TickController x = machine(CALL, 0, 3, LDI, 1, 7, JMP, 0, 2, CALL, 0, 5, RET, 0, 0, LDI, 0, 9, RET, 0, 0);
        pass(x, 3);
        dueState("CALL", x, PC, 3);
        dueState("CALL", x, DEPTH, 1);
        pass(x, 3);
        dueState("second CALL", x, PC, 5);
        dueState("second CALL", x, DEPTH, 2);
        pass(x, 1 + 3);
        dueState("RET", x, PC, 4);
        dueState("RET", x, DEPTH, 1);
        pass(x, 3 + 1);
        dueState("second RET", x, PC, 2);
        dueState("second RET", x, DEPTH, 0);
        dueRegister("after CALL", x, 1, 7);
        TickController y = machine(LDI, 0, 4, PUSH, 0, 0, RET, 0, 0);
        pass(y, 6);
        dueState("RET to a pushed byte", y, PC, 4);
    }

    private static void pushAndPop() {
        TickController x = machine(LDI, 0, 11, PUSH, 0, 0, LDI, 0, 12, PUSH, 0, 0, POP, 1, 0, POP, 2, 0,
                CALL, 0, 7, POP, 3, 0);
        pass(x, 6);
        dueState("two pushed", x, DEPTH, 2);
        pass(x, 4);
        dueRegister("the last comes first", x, 1, 12);
        dueRegister("the first comes last", x, 2, 11);
        dueState("two popped", x, DEPTH, 0);
        pass(x, 5);
        dueRegister("POP of a PC", x, 3, 7);
    }

    private static void flagsStay() {
        int[] both = {LDI, 6, 1, SHR, 6, 0};
        int[] neither = {LDI, 6, 1, ADD, 6, 6};
        int[] ops = {LDI, MOV, LD, ST, LDX, STX, IN, OUT, JMP, JZ, JC, CALL, PUSH, SLEEP, WDR, DJNZ, CLI};
        for (int op : ops) {
            dueState("Z and C stay after " + op, ranTwo(both, op), FLAGS, Z + C);
            dueState("no Z, no C after " + op, ranTwo(neither, op), FLAGS, 0);
        }
        int[] pops = {POP, RET};
        for (int op : pops) {
            dueState("Z and C stay after " + op, ranTwo(program(both, code(PUSH, 6, 0)), op), FLAGS, Z + C);
            dueState("no Z, no C after " + op, ranTwo(program(neither, code(PUSH, 6, 0)), op), FLAGS, 0);
        }
        dueState("Z and C stay after SEI", ranTwo(both, SEI), FLAGS, Z + C + I);
        dueState("Z and C stay after RETI", ranTwo(program(both, code(PUSH, 6, 0)), RETI), FLAGS, Z + C + I);
    }

    /** Runs up to the instruction, then that one alone. */
    private static TickController ranTwo(int[] before, int op) {
        TickController x = machine(program(before, code(op, 1, 1)));
        x.run(before.length > 6 ? 4 : 2);
        x.run(1);
        return x;
    }

    private static void interruptFlag() {
        TickController x = machine(SEI, 0, 0, CLI, 0, 0, LDI, 0, 5, PUSH, 0, 0, RETI, 0, 0);
        pass(x, 1);
        dueState("SEI", x, FLAGS, I);
        pass(x, 1);
        dueState("CLI", x, FLAGS, 0);
        pass(x, 3 + 3);
        dueState("RETI", x, FLAGS, I);
        dueState("RETI", x, PC, 5);
        dueState("RET leaves I", ran(PUSH, 0, 0, LDI, 1, 5, PUSH, 1, 0, RET, 0, 0), FLAGS, 0);
    }

    private static void effectComesBeforeItsCycles() {
        TickController x = machine(IN, 0, CLOCK, LD, 1, 0, IN, 2, CLOCK, CALL, 0, 4, IN, 3, CLOCK);
        x.run(8);
        dueRegister("IN in the first cycle", x, 0, 0);
        dueRegister("IN after three cycles", x, 2, 3);
        dueRegister("IN after seven cycles", x, 3, 7);
    }
}
