/** Builds a program whose instructions begin at chosen times, as long as nothing interrupts it; 0 and 7 are its own. */
final class TimedProgram extends TestBase {
    private final TickController x = new TickController();
    private int time = 0;

    /** An instruction that takes one cycle and begins when T is as said. */
    TimedProgram at(int when, int op, int a, int b) {
        waitUntil(when);
        x.load(op, a, b);
        time++;
        return this;
    }

    /** An OUT whose effect comes when T is as said; its own cycle is the next one. */
    TimedProgram out(int when, int port, int value) {
        waitUntil(when - 1);
        x.load(LDI, 7, value);
        x.load(OUT, 7, port);
        time += 2;
        return this;
    }

    TickController sleeping() {
        x.load(SLEEP, 0, 0);
        return x;
    }

    private void waitUntil(int when) {
        if (when < time) {
            throw new IllegalArgumentException("T is " + time + " already, not " + when);
        }
        if ((when - time) % 2 == 1) {
            x.load(LDI, 0, 0);
            time++;
        }
        if (time < when) {
            int here = x.load(LDI, 0, (when - time) / 2);
            x.load(DJNZ, 0, here + 1);
            time = when;
        }
    }
}
