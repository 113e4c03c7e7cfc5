/** "Register operands are taken & 7, memory & 31, ports & 31, numbers & 255": operands beyond their range. */
final class OperandsTest extends TestBase {
    private static final int REGISTER = 8, MEMORY = 32, PORT = 32, NUMBER = 256;
    private static final int[] TIMES = {1, -1, 3, -7, 1 << 19, -(1 << 19)};

    public static void main(String[] args) {
        registersBeyondSeven();
        secondRegistersBeyondSeven();
        memoryBeyondThirtyOne();
        memoryOfARegisterBeyondThirtyOne();
        portsBeyondThirtyOne();
        numbersBeyondAByte();
        placesBeyondAByte();
        placesWithinAByteAreKept();
        unusedOperandsDoNothing();
        end();
    }

    /** Registers, memory and flags are all told apart, the stack has two ints; the operation is at 16. */
    private static String after(int op, int a, int b) {
        TickController x = machine(LDI, 0, 1, LDI, 1, 40, LDI, 2, 81, LDI, 3, 122, LDI, 4, 163, LDI, 5, 204,
                LDI, 6, 245, LDI, 7, 31, ST, 1, 0, ST, 2, 6, ST, 3, 21, ST, 4, 31, ST, 5, 8, PUSH, 6, 0, PUSH, 7, 0,
                SHR, 0, 0, op, a, b);
        x.run(8 + 5 * 2 + 2 * 2 + 1);
        x.run(1);
        return snapshot(x);
    }

    private static void dueAlike(int op, int a, int b, int wideA, int wideB) {
        String plain = after(op, a, b);
        String wide = after(op, wideA, wideB);
        String what = "operation " + op + " of " + wideA + " and " + wideB + " is that of " + a + " and " + b;
        due(plain.equals(wide) ? what : what + "\n  got " + wide + "\n  due " + plain, plain.equals(wide), true);
    }

    private static void dueFirstMasked(int range, int b, int... ops) {
        for (int op : ops) {
            for (int times : TIMES) {
                dueAlike(op, 0, b, range * times, b);
                dueAlike(op, 3, b, 3 + range * times, b);
                dueAlike(op, 7, b, 7 + range * times, b);
            }
        }
    }

    private static void dueSecondMasked(int range, int b, int... ops) {
        for (int op : ops) {
            for (int times : TIMES) {
                dueAlike(op, 2, b, 2, b + range * times);
            }
        }
    }

    private static void registersBeyondSeven() {
        dueFirstMasked(REGISTER, 5, LDI, MOV, ADD, SUB, CMP, AND, XOR, SHR, LD, ST, LDX, STX, IN, OUT, PUSH, POP,
                DJNZ);
    }

    private static void secondRegistersBeyondSeven() {
        int[] registers = {0, 1, 6, 7};
        for (int b : registers) {
            dueSecondMasked(REGISTER, b, MOV, ADD, SUB, CMP, AND, XOR, LDX, STX);
        }
    }

    private static void memoryBeyondThirtyOne() {
        int[] places = {0, 6, 31};
        for (int b : places) {
            dueSecondMasked(MEMORY, b, LD, ST);
        }
    }

    /** Register 1 is 40, of which LDX and STX make 8; 245 and 163 in 6 and 4 make 21 and 3. */
    private static void memoryOfARegisterBeyondThirtyOne() {
        TickController x = machine(LDI, 1, 40, LDI, 6, 245, LDI, 2, 77, STX, 2, 1, STX, 1, 6, LDX, 3, 1, LDX, 4, 6);
        x.run(100);
        due("STX at 40", x.memory(8), 77);
        due("STX at 245", x.memory(21), 40);
        dueRegister("LDX at 40", x, 3, 77);
        dueRegister("LDX at 245", x, 4, 40);
        dueRegister("the register stays", x, 1, 40);
    }

    private static void portsBeyondThirtyOne() {
        for (int b = 0; b < 32; b++) {
            dueSecondMasked(PORT, b, IN, OUT);
        }
    }

    private static void numbersBeyondAByte() {
        int[] numbers = {0, 1, 128, 255};
        for (int b : numbers) {
            dueSecondMasked(NUMBER, b, LDI);
        }
        int[][] wide = {{256, 0}, {257, 1}, {-1, 255}, {-256, 0}, {-257, 255}, {1000, 232}};
        for (int[] w : wide) {
            TickController x = machine(LDI, 0, 7, LDI, 0, w[0]);
            pass(x, 2);
            dueRegister("LDI of " + w[0], x, 0, w[1]);
        }
    }

    private static void placesBeyondAByte() {
        int[] places = {0, 16, 47, 255};
        for (int b : places) {
            dueSecondMasked(NUMBER, b, JMP, JZ, JC, CALL, DJNZ);
        }
    }

    /** A place is a number, and a number isn't cut to the 48 instructions that there may be. */
    private static void placesWithinAByteAreKept() {
        int[] places = {47, 48, 63, 64, 128, 255};
        for (int b : places) {
            TickController x = machine(JMP, 0, b);
            pass(x, 2);
            dueState("JMP " + b, x, PC, b);
            due("at " + b, x.run(1), 0);
            dueState("at " + b, x, PC, b);
            dueState("at " + b, x, MODE, HALTED);
        }
    }

    private static void unusedOperandsDoNothing() {
        int[] neither = {RET, RETI, SEI, CLI, SLEEP, WDR};
        int[] firstUnused = {JMP, JZ, JC, CALL};
        int[] secondUnused = {SHR, PUSH, POP};
        int[] any = {-1, 9, 255, 256, Integer.MIN_VALUE, Integer.MAX_VALUE};
        for (int v : any) {
            for (int op : neither) {
                dueAlike(op, 0, 0, v, v);
            }
            for (int op : firstUnused) {
                dueAlike(op, 0, 20, v, 20);
            }
            for (int op : secondUnused) {
                dueAlike(op, 4, 0, 4, v);
            }
        }
    }
}
