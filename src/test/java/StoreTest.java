/** The store. */
final class StoreTest extends TestBase {
    public static void main(String[] args) {
        storingTime();
        addressAndByteOfTheBeginning();
        outWhileStoringDoesNothing();
        outInTheVeryNextCycle();
        addressesWrapAround();
        outWhileStoringNeitherBeginsAnewNorChanges();
        everyAddressIsItsOwn();
        zeroAtFirst();
        controlWrittenWhileStoring();
        dataReadsAtTheAddress();
        interruptSeven();
        outlastsAll();
        end();
    }

    private static void storingTime() {
        TickController x = machine(program(out(STORE_ADDRESS, 5), out(STORE_DATA, 77), code(SLEEP, 0, 0)));
        pass(x, 3 + 39);
        due("a cycle before: stored(5)", x.stored(5), 0);
        duePort("a cycle before", x, STORE_DATA, 0);
        duePort("a cycle before", x, STORE_CONTROL, 0);
        duePort("a cycle before", x, PENDING, 0);
        pass(x, 1);
        due("stored(5)", x.stored(5), 77);
        duePort("stored", x, STORE_DATA, 77);
        duePort("stored", x, STORE_CONTROL, 1);
        duePort("stored", x, PENDING, 128);
        due("stored(0)", x.stored(0), 0);
    }

    private static void addressAndByteOfTheBeginning() {
        TickController x = machine(program(out(STORE_ADDRESS, 5), out(STORE_DATA, 77), out(STORE_ADDRESS, 6),
                code(SLEEP, 0, 0)));
        pass(x, 100);
        due("stored(5)", x.stored(5), 77);
        due("stored(6)", x.stored(6), 0);
        duePort("the new address", x, STORE_DATA, 0);
    }

    private static void outWhileStoringDoesNothing() {
        TickController x = machine(program(out(STORE_DATA, 1), out(STORE_ADDRESS, 2), out(STORE_DATA, 3),
                code(SLEEP, 0, 0)));
        pass(x, 1 + 40);
        due("the first", x.stored(0), 1);
        pass(x, 100);
        due("the second", x.stored(2), 0);
        due("the first stays", x.stored(0), 1);
    }

    private static void outInTheVeryNextCycle() {
        due("second byte a cycle too early", outTwice(STORE_DATA, 38).stored(0), 1);
        due("second byte just in time", outTwice(STORE_DATA, 39).stored(0), 2);
    }

    private static void addressesWrapAround() {
        int[][] addresses = {{0, 0}, {15, 15}, {16, 0}, {31, 15}, {32, 0}, {255, 15}};
        for (int[] a : addresses) {
            TickController x = machine(program(out(STORE_ADDRESS, a[0]), out(STORE_DATA, 77), code(SLEEP, 0, 0)));
            pass(x, 43);
            duePort("address " + a[0], x, STORE_ADDRESS, a[1]);
            duePort("address " + a[0], x, STORE_DATA, 77);
            for (int k = 0; k < 16; k++) {
                due("address " + a[0] + ": stored(" + k + ")", x.stored(k), k == a[1] ? 77 : 0);
            }
        }
    }

    private static void outWhileStoringNeitherBeginsAnewNorChanges() {
        int[] times = {3, 20, 39, 40};
        for (int when : times) {
            TickController x = new TimedProgram().out(1, STORE_DATA, 65).out(when, STORE_DATA, 66).sleeping();
            pass(x, 40);
            due("OUT at " + when + ", a cycle before", x.stored(0), 0);
            x.run(1);
            due("OUT at " + when, x.stored(0), 65);
            duePort("OUT at " + when, x, STORE_CONTROL, 1);
            pass(x, 100);
            due("OUT at " + when + ", long after", x.stored(0), 65);
        }
    }

    private static void everyAddressIsItsOwn() {
        TickController x = machine(LDI, 2, 1, OUT, 0, STORE_ADDRESS, LDI, 3, 100, ADD, 3, 0, OUT, 3, STORE_DATA,
                LDI, 1, 20, DJNZ, 1, 6, ADD, 0, 2, JMP, 0, 1);
        pass(x, 1 + 16 * 47);
        for (int k = 0; k < 16; k++) {
            due("stored(" + k + ")", x.stored(k), 100 + k);
        }
    }

    private static void zeroAtFirst() {
        TickController x = machine(LDI, 0, 16, DJNZ, 0, 3, SLEEP, 0, 0, OUT, 0, STORE_ADDRESS, LDI, 1, 9,
                IN, 1, STORE_DATA, ADD, 2, 1, JMP, 0, 1);
        x.run(300);
        dueState("all looked at", x, MODE, ASLEEP);
        dueRegister("all bytes together", x, 2, 0);
        dueRegister("the last byte", x, 1, 0);
    }

    private static void controlWrittenWhileStoring() {
        TickController x = new TimedProgram().out(1, STORE_DATA, 65).out(3, STORE_CONTROL, 8).at(4, SEI, 0, 0)
                .out(6, STORE_CONTROL, 255 - 8).out(8, STORE_CONTROL, 8 + 1).sleeping();
        x.vector(7, 40);
        pass(x, 4);
        duePort("bit 3 while storing", x, STORE_CONTROL, 8);
        pass(x, 3);
        duePort("all but bit 3 while storing", x, STORE_CONTROL, 0);
        pass(x, 2);
        duePort("bits 3 and 0 while storing", x, STORE_CONTROL, 8);
        pass(x, 41 - 9);
        duePort("stored", x, STORE_CONTROL, 8 + 1);
        pass(x, 3);
        dueState("stored", x, PC, 40);
    }

    private static void dataReadsAtTheAddress() {
        TickController x = machine(program(out(STORE_ADDRESS, 9), out(STORE_DATA, 44), code(DJNZ, 1, 4,
                IN, 0, STORE_DATA), out(STORE_ADDRESS, 8), code(IN, 2, STORE_DATA), out(STORE_ADDRESS, 16 + 9),
                code(IN, 3, STORE_DATA)));
        x.run(3000);
        dueRegister("at 9", x, 0, 44);
        dueRegister("at 8", x, 2, 0);
        dueRegister("at 25 & 15", x, 3, 44);
    }

    private static void interruptSeven() {
        TickController x = machine(program(code(SEI, 0, 0), out(STORE_CONTROL, 8), out(STORE_DATA, 1),
                code(SLEEP, 0, 0)));
        x.vector(7, 20);
        pass(x, 5);
        duePort("storing", x, STORE_CONTROL, 8);
        pass(x, 39 + 3);
        dueState("enabled", x, PC, 20);
        dueState("enabled", x, TAKEN, 1);
        duePort("stored", x, STORE_CONTROL, 9);
        TickController y = machine(program(code(SEI, 0, 0), out(STORE_CONTROL, 255 - 8), out(STORE_DATA, 1),
                code(SLEEP, 0, 0)));
        pass(y, 100);
        dueState("not enabled", y, TAKEN, 0);
        duePort("not enabled", y, PENDING, 128);
    }

    private static void outlastsAll() {
        TickController x = machine(program(out(STORE_ADDRESS, 15), out(STORE_DATA, 31), out(WATCHDOG, 2),
                code(SLEEP, 0, 0)));
        pass(x, 80);
        dueState("a reset", x, RESETS, 1);
        due("after a reset: stored(15)", x.stored(15), 31);
        x.power();
        due("after power: stored(15)", x.stored(15), 31);
    }
}
