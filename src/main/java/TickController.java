/** A small microcontroller that is exact to the cycle. The document DOC.md says what it must do. */
public final class TickController {
    private static final int PROGRAM_SIZE = 48;
    private static final int OPERATIONS = 27;
    private static final int INTERRUPTS = 9;
    private static final int REGISTERS = 8;
    private static final int MEMORY_SIZE = 32;
    private static final int STACK_SIZE = 16;
    private static final int CHANNELS = 4;
    private static final int STORE_SIZE = 16;
    private static final int LINE_SIZE = 32;
    private static final int PORTS = 20;
    private static final int MOST_CYCLES = 3000;
    private static final int LAST_TIME = 1000000000;
    private static final int CONVERSION_CYCLES = 52;
    private static final int STORING_CYCLES = 40;

    private static final int LDI = 0;
    private static final int MOV = 1;
    private static final int ADD = 2;
    private static final int SUB = 3;
    private static final int CMP = 4;
    private static final int AND = 5;
    private static final int XOR = 6;
    private static final int SHR = 7;
    private static final int LD = 8;
    private static final int ST = 9;
    private static final int LDX = 10;
    private static final int STX = 11;
    private static final int IN = 12;
    private static final int OUT = 13;
    private static final int JMP = 14;
    private static final int JZ = 15;
    private static final int JC = 16;
    private static final int CALL = 17;
    private static final int RET = 18;
    private static final int PUSH = 19;
    private static final int POP = 20;
    private static final int RETI = 21;
    private static final int SEI = 22;
    private static final int CLI = 23;
    private static final int SLEEP = 24;
    private static final int WDR = 25;
    private static final int DJNZ = 26;

    private static final int TIMER_A_CONTROL = 1;
    private static final int TIMER_B_CONTROL = 4;
    private static final int SERIAL_DATA = 6;
    private static final int SERIAL_CONTROL = 7;
    private static final int DIVIDER = 8;
    private static final int CONVERTER_CONTROL = 9;
    private static final int CONVERTER_RESULT = 10;
    private static final int PENDING = 11;
    private static final int OUTPUT_PINS = 12;
    private static final int INPUT_PINS = 13;
    private static final int WATCHDOG = 14;
    private static final int CYCLES_PASSED = 15;
    private static final int STORE_ADDRESS = 16;
    private static final int STORE_DATA = 17;
    private static final int STORE_CONTROL = 18;
    private static final int MASK = 19;

    private static final int RECEIVED_INTERRUPT = 1 << 4;
    private static final int SENT_INTERRUPT = 1 << 5;
    private static final int CONVERTED_INTERRUPT = 1 << 6;
    private static final int STORED_INTERRUPT = 1 << 7;
    private static final int PINS_INTERRUPT = 1 << 8;

    private final int[] operations = new int[PROGRAM_SIZE];
    private final int[] firstOperands = new int[PROGRAM_SIZE];
    private final int[] secondOperands = new int[PROGRAM_SIZE];
    private final int[] vectors = new int[INTERRUPTS];
    private final int[] registers = new int[REGISTERS];
    private final int[] memoryBytes = new int[MEMORY_SIZE];
    private final int[] stack = new int[STACK_SIZE];
    private final int[] analogValues = new int[CHANNELS];
    private final int[] storedBytes = new int[STORE_SIZE];
    private final int[] lineBytes = new int[LINE_SIZE];
    // What a port keeps by itself; readPort adds the bits that follow from the rest of the state.
    private final int[] ports = new int[PORTS];

    private int programLength;
    private int pc;
    private boolean zero;
    private boolean carry;
    private boolean interruptsAllowed;
    private int stackDepth;
    private boolean asleep;
    private boolean halted;
    private int time;
    private int resets;
    private int interruptsTaken;
    private int edges;
    private int pending;
    private boolean received;
    private boolean overrun;
    private int byteBeingSent;
    private int sendingCyclesLeft;
    private int bytesSent;
    private int conversionCyclesLeft;
    private int byteBeingStored;
    private int addressBeingStored;
    private int storingCyclesLeft;
    private int watchdogCycles;

    /** Power: Java's own zeros are the state that the document asks for. */
    public TickController() {
    }

    public int load(int op, int a, int b) {
        if (op < 0 || op >= OPERATIONS || programLength >= PROGRAM_SIZE) {
            return -1;
        }
        operations[programLength] = op;
        firstOperands[programLength] = a;
        secondOperands[programLength] = b;
        programLength++;
        return programLength - 1;
    }

    public boolean vector(int k, int at) {
        if (k < 0 || k >= INTERRUPTS || at < 0 || at >= PROGRAM_SIZE) {
            return false;
        }
        vectors[k] = at;
        return true;
    }

    public void power() {
        reset();
        ports[OUTPUT_PINS] = 0;
        for (int r = 0; r < REGISTERS; r++) {
            registers[r] = 0;
        }
        for (int m = 0; m < MEMORY_SIZE; m++) {
            memoryBytes[m] = 0;
        }
        zero = false;
        carry = false;
        halted = false;
        time = 0;
        resets = 0;
        interruptsTaken = 0;
        edges = 0;
        bytesSent = 0;
    }

    public int run(int n) {
        if (n < 1 || n > MOST_CYCLES || time > LAST_TIME) {
            return -1;
        }
        int start = time;
        // Each step lets a cycle pass or halts the machine, so n steps are always enough.
        for (int steps = 0; steps < n && time - start < n && !halted; steps++) {
            int cycles = takeStep();
            for (int c = 0; c < cycles; c++) {
                passCycle();
            }
        }
        return time - start;
    }

    public boolean pins(int v) {
        int changed = ports[INPUT_PINS] ^ (v & 255);
        ports[INPUT_PINS] = v & 255;
        if ((changed & ports[MASK]) == 0) {
            return false;
        }
        pending |= PINS_INTERRUPT;
        return true;
    }

    public boolean analog(int c, int v) {
        if (c < 0 || c >= CHANNELS) {
            return false;
        }
        analogValues[c] = v & 255;
        return true;
    }

    public boolean receive(int v) {
        if (received) {
            overrun = true;
            return false;
        }
        received = true;
        ports[SERIAL_DATA] = v & 255;
        pending |= RECEIVED_INTERRUPT;
        return true;
    }

    public int register(int r) {
        return r < 0 || r >= REGISTERS ? -1 : registers[r];
    }

    public int memory(int m) {
        return m < 0 || m >= MEMORY_SIZE ? -1 : memoryBytes[m];
    }

    public int port(int p) {
        return p < 0 || p >= PORTS ? -1 : readPort(p);
    }

    public int state(int what) {
        switch (what) {
            case 0:
                return pc;
            case 1:
                return (zero ? 1 : 0) + (carry ? 2 : 0) + (interruptsAllowed ? 4 : 0);
            case 2:
                return stackDepth;
            case 3:
                return halted ? 2 : asleep ? 1 : 0;
            case 4:
                return resets;
            case 5:
                return interruptsTaken;
            case 6:
                return time;
            case 7:
                return edges;
            default:
                return -1;
        }
    }

    public int stored(int k) {
        return k < 0 || k >= STORE_SIZE ? -1 : storedBytes[k];
    }

    public int line(int k) {
        return k < 0 || k >= LINE_SIZE || k >= bytesSent ? -1 : lineBytes[k];
    }

    public int sent() {
        return bytesSent;
    }

    /** Does the effect of an interrupt, a cycle asleep or an instruction; answers the cycles it takes. */
    private int takeStep() {
        int ready = interruptsAllowed ? pending & enabledInterrupts() : 0;
        if (ready != 0) {
            return takeInterrupt(ready);
        }
        if (asleep) {
            return 1;
        }
        if (pc >= programLength) {
            return halt();
        }
        return carryOut();
    }

    private int halt() {
        halted = true;
        return 0;
    }

    /** In each control port that has them, bits 3 and 4 enable two neighbouring interrupts. */
    private int enabledInterrupts() {
        int enabled = (ports[TIMER_A_CONTROL] >> 3) & 3;
        enabled |= ((ports[TIMER_B_CONTROL] >> 3) & 3) << 2;
        enabled |= ((ports[SERIAL_CONTROL] >> 3) & 3) << 4;
        enabled |= ((ports[CONVERTER_CONTROL] >> 3) & 1) << 6;
        enabled |= ((ports[STORE_CONTROL] >> 3) & 1) << 7;
        if (ports[MASK] != 0) {
            enabled |= PINS_INTERRUPT;
        }
        return enabled;
    }

    /** A full stack halts before anything has changed: the interrupt isn't taken and stays pending. */
    private int takeInterrupt(int ready) {
        if (stackDepth >= STACK_SIZE) {
            return halt();
        }
        int least = 0;
        while (least < INTERRUPTS - 1 && ((ready >> least) & 1) == 0) {
            least++;
        }
        pending &= ~(1 << least);
        push(pc);
        interruptsAllowed = false;
        pc = vectors[least];
        asleep = false;
        interruptsTaken++;
        return 3;
    }

    private int carryOut() {
        int op = operations[pc];
        int a = firstOperands[pc] & 7;
        int b = secondOperands[pc];
        if (op >= CALL && op <= RETI) {
            return useStack(op, a, b);
        }
        pc++;
        if (op <= SHR) {
            calculate(op, a, b);
            return 1;
        }
        if (op <= STX) {
            useMemory(op, a, b);
            return 2;
        }
        if (op <= OUT) {
            usePort(op, a, b & 31);
            return 1;
        }
        if (op <= JC || op == DJNZ) {
            return jump(op, a, b & 255);
        }
        control(op);
        return 1;
    }

    private void calculate(int op, int a, int b) {
        int left = registers[a];
        int right = registers[b & 7];
        int result = 0;
        switch (op) {
            case LDI:
                registers[a] = b & 255;
                return;
            case MOV:
                registers[a] = right;
                return;
            case ADD:
                result = (left + right) & 255;
                carry = left + right > 255;
                break;
            case SUB:
            case CMP:
                result = (left - right) & 255;
                carry = right > left;
                break;
            case AND:
                result = left & right;
                break;
            case XOR:
                result = left ^ right;
                break;
            case SHR:
                result = left >> 1;
                carry = (left & 1) != 0;
                break;
            default:
                return;
        }
        zero = result == 0;
        if (op != CMP) {
            registers[a] = result;
        }
    }

    private void useMemory(int op, int a, int b) {
        boolean indexed = op == LDX || op == STX;
        int at = (indexed ? registers[b & 7] : b) & 31;
        if (op == LD || op == LDX) {
            registers[a] = memoryBytes[at];
        }
        if (op == ST || op == STX) {
            memoryBytes[at] = registers[a];
        }
    }

    private void usePort(int op, int a, int p) {
        if (op == OUT) {
            writePort(p, registers[a]);
        }
        if (op == IN) {
            registers[a] = readPort(p);
            received = received && p != SERIAL_DATA;
            overrun = overrun && p != SERIAL_CONTROL;
        }
    }

    private int jump(int op, int a, int target) {
        if (op == DJNZ) {
            registers[a] = (registers[a] - 1) & 255;
        }
        boolean taken = op == JMP
                || (op == JZ && zero)
                || (op == JC && carry)
                || (op == DJNZ && registers[a] != 0);
        if (!taken) {
            return 1;
        }
        pc = target;
        return 2;
    }

    /** A push or pop that can't be done halts before anything has changed: PC stays at its instruction. */
    private int useStack(int op, int a, int b) {
        boolean pushes = op == CALL || op == PUSH;
        if (pushes ? stackDepth >= STACK_SIZE : stackDepth <= 0) {
            return halt();
        }
        pc++;
        switch (op) {
            case CALL:
                push(pc);
                pc = b & 255;
                return 3;
            case RET:
                pc = pop();
                return 3;
            case RETI:
                pc = pop();
                interruptsAllowed = true;
                return 3;
            case PUSH:
                push(registers[a]);
                return 2;
            case POP:
                registers[a] = pop() & 255;
                return 2;
            default:
                return 1;
        }
    }

    private void push(int value) {
        stack[stackDepth] = value;
        stackDepth++;
    }

    private int pop() {
        stackDepth--;
        return stack[stackDepth];
    }

    private void control(int op) {
        switch (op) {
            case SEI:
                interruptsAllowed = true;
                break;
            case CLI:
                interruptsAllowed = false;
                break;
            case SLEEP:
                asleep = true;
                break;
            case WDR:
                watchdogCycles = 0;
                break;
            default:
                break;
        }
    }

    private int readPort(int p) {
        switch (p) {
            case SERIAL_CONTROL:
                return ports[p] + (sendingCyclesLeft == 0 ? 1 : 0) + (received ? 2 : 0) + (overrun ? 4 : 0);
            case CONVERTER_CONTROL:
                return ports[p] + (conversionCyclesLeft > 0 ? 4 : 0);
            case PENDING:
                return pending & 255;
            case CYCLES_PASSED:
                return time & 255;
            case STORE_DATA:
                return storedBytes[ports[STORE_ADDRESS]];
            case STORE_CONTROL:
                return ports[p] + (storingCyclesLeft == 0 ? 1 : 0);
            default:
                return p < PORTS ? ports[p] : 0;
        }
    }

    private void writePort(int p, int v) {
        switch (p) {
            case SERIAL_DATA:
                beginSending(v);
                break;
            case SERIAL_CONTROL:
                ports[p] = v & 24;
                break;
            case CONVERTER_CONTROL:
                controlConverter(v);
                break;
            case PENDING:
                pending &= ~v;
                break;
            case OUTPUT_PINS:
                setOutputPins(v);
                break;
            case WATCHDOG:
                ports[p] = v;
                watchdogCycles = 0;
                break;
            case STORE_ADDRESS:
                ports[p] = v & 15;
                break;
            case STORE_DATA:
                beginStoring(v);
                break;
            case STORE_CONTROL:
                ports[p] = v & 8;
                break;
            case CONVERTER_RESULT:
            case INPUT_PINS:
            case CYCLES_PASSED:
                break;
            default:
                if (p < PORTS) {
                    ports[p] = v;
                }
                break;
        }
    }

    private void beginSending(int v) {
        if (sendingCyclesLeft == 0) {
            byteBeingSent = v;
            sendingCyclesLeft = 8 * (ports[DIVIDER] + 1);
        }
    }

    private void controlConverter(int v) {
        if ((v & 4) != 0 && conversionCyclesLeft == 0) {
            conversionCyclesLeft = CONVERSION_CYCLES;
        }
        // Bit 2 is read from the converter's work, so it isn't kept.
        ports[CONVERTER_CONTROL] = v & ~4;
    }

    private void beginStoring(int v) {
        if (storingCyclesLeft == 0) {
            byteBeingStored = v;
            addressBeingStored = ports[STORE_ADDRESS];
            storingCyclesLeft = STORING_CYCLES;
        }
    }

    private void setOutputPins(int v) {
        int changed = ports[OUTPUT_PINS] ^ v;
        for (int pin = 0; pin < 8; pin++) {
            edges += (changed >> pin) & 1;
        }
        ports[OUTPUT_PINS] = v;
    }

    /** The order of the calls is the document's order of things that come in one cycle. */
    private void passCycle() {
        time++;
        passTimer(0);
        passTimer(1);
        passSerial();
        passConverter();
        passStore();
        passWatchdog();
    }

    /** Timer 0 is A, 1 is B; its three ports, two interrupts and pin follow from that number. */
    private void passTimer(int timer) {
        int countPort = 3 * timer;
        int control = ports[countPort + 1];
        int compare = ports[countPort + 2];
        if (!ticksNow(control & 3)) {
            return;
        }
        if ((control & 4) != 0 && ports[countPort] == compare) {
            ports[countPort] = 0;
        } else {
            ports[countPort] = (ports[countPort] + 1) & 255;
            if (ports[countPort] == 0) {
                pending |= 2 << (2 * timer);
            }
        }
        if (ports[countPort] == compare) {
            pending |= 1 << (2 * timer);
            if ((control & 32) != 0) {
                setOutputPins(ports[OUTPUT_PINS] ^ (1 << timer));
            }
        }
    }

    private boolean ticksNow(int prescaler) {
        switch (prescaler) {
            case 1:
                return true;
            case 2:
                return time % 4 == 0;
            case 3:
                return time % 16 == 0;
            default:
                return false;
        }
    }

    private void passSerial() {
        if (sendingCyclesLeft == 0) {
            return;
        }
        sendingCyclesLeft--;
        if (sendingCyclesLeft == 0) {
            if (bytesSent < LINE_SIZE) {
                lineBytes[bytesSent] = byteBeingSent;
            }
            bytesSent++;
            pending |= SENT_INTERRUPT;
        }
    }

    private void passConverter() {
        if (conversionCyclesLeft == 0) {
            return;
        }
        conversionCyclesLeft--;
        if (conversionCyclesLeft == 0) {
            ports[CONVERTER_RESULT] = analogValues[ports[CONVERTER_CONTROL] & 3];
            pending |= CONVERTED_INTERRUPT;
        }
    }

    private void passStore() {
        if (storingCyclesLeft == 0) {
            return;
        }
        storingCyclesLeft--;
        if (storingCyclesLeft == 0) {
            storedBytes[addressBeingStored] = byteBeingStored;
            pending |= STORED_INTERRUPT;
        }
    }

    private void passWatchdog() {
        int length = ports[WATCHDOG] & 7;
        if (length == 0) {
            return;
        }
        watchdogCycles++;
        if (watchdogCycles >= 1 << (length + 4)) {
            reset();
            resets++;
        }
    }

    /** What a reset by the watchdog and power have in common. */
    private void reset() {
        pc = 0;
        interruptsAllowed = false;
        asleep = false;
        stackDepth = 0;
        for (int p = 0; p < PORTS; p++) {
            if (p != OUTPUT_PINS && p != INPUT_PINS) {
                ports[p] = 0;
            }
        }
        pending = 0;
        received = false;
        overrun = false;
        sendingCyclesLeft = 0;
        conversionCyclesLeft = 0;
        storingCyclesLeft = 0;
        watchdogCycles = 0;
    }
}
