/**
 * A small machine with two worlds. Code of the open world reaches what is closed only through gates;
 * exceptions of either world interrupt both.
 */
public final class TwoWorlds {
    private static final int BAD = -1;

    private static final int ADDRESSES = 256;
    private static final int ADDRESS_MASK = 255;
    private static final int WORD_MASK = 65535;
    private static final int REGIONS = 4;
    private static final int MOST_STEPS = 200;

    private static final int KIND_CLOSED = 0;
    private static final int KIND_OPEN = 1;
    private static final int KIND_GATES = 2;

    private static final int OP_SET = 0;
    private static final int OP_ADD = 1;
    private static final int OP_SUB = 2;
    private static final int OP_LOAD = 3;
    private static final int OP_STORE = 4;
    private static final int OP_PUSH = 5;
    private static final int OP_POP = 6;
    private static final int OP_GO = 7;
    private static final int OP_GO_ZERO = 8;
    private static final int OP_CALL = 9;
    private static final int OP_GATE = 10;
    private static final int OP_OUT = 11;
    private static final int OP_OUT_CALL = 12;
    private static final int OP_RETURN = 13;
    private static final int OP_RAISE = 14;
    private static final int OP_STOP = 15;

    private static final int NAMES_A = 1;
    private static final int NAMES_B = 2;
    private static final int NAMES_C = 4;
    /** Which of Ra, Rb and Rc each op names, by op: only these can make it unknown. */
    private static final int[] NAMED = {1, 7, 7, 3, 3, 1, 1, 0, 0, 2, 0, 2, 2, 0, 0, 0};
    private static final int NO_REGISTER = 7;

    private static final int LINK = 6;
    private static final int LINK_FROM_GATE = 32768;
    private static final int LINK_END = 65408;
    private static final int LINK_OUT_CALL = 65520;
    private static final int OUT_CALL_MARK = 4096;
    private static final int FRAME_MARK = 1000;

    private static final int NO_FAULT = 0;
    private static final int UNKNOWN = 1;
    private static final int BREACH = 2;
    private static final int FIRST_RAISED = 3;
    private static final int LAST_EXCEPTION = 6;

    private static final int GOING = 0;
    private static final int STILL = 1;
    private static final int LOCKED = 2;

    private final int[] words;
    /** What each word is: every access asks it and regions change seldom, so it is worked out in advance. */
    private final int[] kinds;
    private final int[] regionFirst;
    private final int[] regionLast;
    private final int[] regionKind;
    private final Registers now;
    /** What a fault, or a taking that fails, goes back to. */
    private final Registers before;

    private boolean breachesEnabled;
    private int closedExceptions;
    private int closedBase;
    private int openBase;
    private int state;
    private int pending;
    private int takenLast;
    /** The fault of the instruction or taking under way: from then on it changes no word. */
    private int fault;

    public TwoWorlds() {
        words = new int[ADDRESSES];
        kinds = new int[ADDRESSES];
        regionFirst = new int[REGIONS];
        regionLast = new int[REGIONS];
        regionKind = new int[REGIONS];
        now = new Registers();
        before = new Registers();
        breachesEnabled = true;
    }

    public int poke(int address, int v) {
        int at = address & ADDRESS_MASK;
        int old = words[at];
        words[at] = v & WORD_MASK;
        return old;
    }

    public boolean fill(int address, long words) {
        if (address < 0 || address > ADDRESSES - 4) {
            return false;
        }
        for (int i = 0; i < 4; i++) {
            this.words[address + i] = (int) (words >>> (16 * i)) & WORD_MASK;
        }
        return true;
    }

    public boolean region(int k, int first, int last, int kind) {
        if (k < 0 || k >= REGIONS || kind < KIND_CLOSED || kind > KIND_GATES) {
            return false;
        }
        if (!isAddress(first) || !isAddress(last)) {
            return false;
        }
        regionFirst[k] = first;
        regionLast[k] = last;
        regionKind[k] = kind;
        for (int at = 0; at < ADDRESSES; at++) {
            kinds[at] = kindByRegions(at);
        }
        return true;
    }

    public boolean settings(boolean enabled, int closed, int closedBase, int openBase) {
        if (closed < 0 || closed > 15 || !isBase(closedBase) || !isBase(openBase)) {
            return false;
        }
        breachesEnabled = enabled;
        closedExceptions = closed;
        this.closedBase = closedBase;
        this.openBase = openBase;
        return true;
    }

    public boolean begin(int pc, boolean open, int closedStack, int openStack) {
        if (!isAddress(pc)) {
            return false;
        }
        now.pc = pc;
        now.open = open;
        now.closedStack = closedStack & WORD_MASK;
        now.openStack = openStack & WORD_MASK;
        now.active = 0;
        state = GOING;
        pending = 0;
        return true;
    }

    public boolean set(int r, int v) {
        if (r < 0 || r > LINK) {
            return false;
        }
        now.r[r] = v & WORD_MASK;
        return true;
    }

    public boolean interrupt(int e) {
        if (e < FIRST_RAISED || e > LAST_EXCEPTION) {
            return false;
        }
        pending |= 1 << e;
        return true;
    }

    public int run(int n) {
        if (n < 0 || n > MOST_STEPS) {
            return BAD;
        }
        int made = 0;
        while (made < n && state == GOING) {
            step();
            made++;
        }
        return made;
    }

    public int word(int address) {
        return words[address & ADDRESS_MASK];
    }

    public int register(int k) {
        if (k >= 0 && k <= LINK) {
            return now.r[k];
        }
        switch (k) {
            case 7:
                return now.pc;
            case 8:
                return now.closedStack;
            case 9:
                return now.openStack;
            case 10:
                return now.zero ? 1 : 0;
            case 11:
                return now.open ? 1 : 0;
            case 12:
                return now.active;
            case 13:
                return state;
            case 14:
                return pending;
            case 15:
                return takenLast;
            default:
                return BAD;
        }
    }

    public int kind(int address) {
        return kinds[address & ADDRESS_MASK];
    }

    private static boolean isAddress(int address) {
        return address >= 0 && address < ADDRESSES;
    }

    private static boolean isBase(int base) {
        return base >= 0 && base <= 31;
    }

    private int kindByRegions(int address) {
        int found = KIND_CLOSED;
        int holders = 0;
        for (int k = 0; k < REGIONS; k++) {
            if (regionKind[k] != 0 && regionFirst[k] <= address && address <= regionLast[k]) {
                found = regionKind[k];
                holders++;
            }
        }
        return holders == 1 ? found : KIND_CLOSED;
    }

    private void step() {
        takePending();
        if (state != GOING) {
            return;
        }
        before.copy(now);
        fault = NO_FAULT;
        int w = fetch();
        if (fault == NO_FAULT && isUnknown(w)) {
            fault = UNKNOWN;
        }
        if (fault == NO_FAULT) {
            goTo(now.pc + 1);
            if (w >> 12 <= OP_POP) {
                moveData(w);
            } else {
                changeFlow(w);
            }
        }
        if (fault != NO_FAULT) {
            answerFault();
        }
    }

    private void takePending() {
        int limit = now.active == 0 ? LAST_EXCEPTION + 1 : now.active;
        for (int e = FIRST_RAISED; e < limit; e++) {
            if (((pending >> e) & 1) != 0) {
                pending &= ~(1 << e);
                take(e);
                return;
            }
        }
    }

    private int fetch() {
        int w = words[now.pc & ADDRESS_MASK];
        int kind = kinds[now.pc & ADDRESS_MASK];
        if (!now.open) {
            if (kind == KIND_OPEN) {
                fault = BREACH;
            }
        } else if (kind == KIND_GATES && w >> 12 == OP_GATE) {
            now.open = false;
            now.r[LINK] |= LINK_FROM_GATE;
        } else if (kind != KIND_OPEN) {
            fault = BREACH;
        }
        return w;
    }

    private boolean isUnknown(int w) {
        int op = (w >> 12) & 15;
        if (now.open && (op == OP_OUT || op == OP_OUT_CALL || op == OP_STOP)) {
            return true;
        }
        int named = NAMED[op];
        return (named & NAMES_A) != 0 && ((w >> 9) & 7) == NO_REGISTER
            || (named & NAMES_B) != 0 && ((w >> 6) & 7) == NO_REGISTER
            || (named & NAMES_C) != 0 && ((w >> 3) & 7) == NO_REGISTER;
    }

    private void moveData(int w) {
        int[] r = now.r;
        int a = (w >> 9) & 7;
        int b = (w >> 6) & 7;
        int c = (w >> 3) & 7;
        int n = w & 63;
        switch (w >> 12) {
            case OP_SET:
                r[a] = w & 511;
                break;
            case OP_ADD:
                r[a] = (r[b] + r[c]) & WORD_MASK;
                break;
            case OP_SUB:
                r[a] = (r[b] - r[c]) & WORD_MASK;
                now.zero = r[a] == 0;
                break;
            case OP_LOAD:
                r[a] = read(r[b] + n);
                break;
            case OP_STORE:
                write(r[b] + n, r[a]);
                break;
            case OP_PUSH:
                push(r[a]);
                break;
            case OP_POP:
                r[a] = pop();
                break;
            default:
                break;
        }
    }

    /** PC is already at NEXT here. */
    private void changeFlow(int w) {
        int rb = now.r[(w >> 6) & 7];
        switch (w >> 12) {
            case OP_GO:
                goTo(w);
                break;
            case OP_GO_ZERO:
                if (now.zero) {
                    goTo(w);
                }
                break;
            case OP_CALL:
                call(rb);
                break;
            case OP_OUT:
                goOut(rb);
                break;
            case OP_OUT_CALL:
                callOut(rb);
                break;
            case OP_RETURN:
                goBack();
                break;
            case OP_RAISE:
                pending |= 1 << (FIRST_RAISED + ((w >> 3) & 3));
                break;
            case OP_STOP:
                state = STILL;
                break;
            default:
                break;
        }
    }

    private void goTo(int target) {
        now.pc = target & ADDRESS_MASK;
    }

    private void call(int target) {
        now.r[LINK] = now.pc;
        goTo(target);
    }

    private void goOut(int target) {
        now.open = true;
        goTo(target);
    }

    private void callOut(int target) {
        push(now.pc);
        push(OUT_CALL_MARK);
        now.r[LINK] = LINK_OUT_CALL;
        goOut(target);
    }

    private void goBack() {
        int link = now.r[LINK];
        if (link < LINK_FROM_GATE) {
            goTo(link);
        } else if (link < LINK_END && !now.open) {
            goOut(link);
        } else if (link == LINK_OUT_CALL && now.open) {
            endOutCall();
        } else if (link >= LINK_END && link < LINK_OUT_CALL && now.active != 0) {
            endException(link - LINK_END);
        } else {
            fault = BREACH;
        }
    }

    private void endOutCall() {
        now.open = false;
        if (pop() != OUT_CALL_MARK) {
            fault = BREACH;
        }
        goTo(pop());
    }

    private void endException(int k) {
        int active = (k >> 4) & 7;
        now.open = (k & 1) == 0;
        if (pop() != FRAME_MARK + active) {
            fault = BREACH;
        }
        for (int i = LINK - 1; i >= 0; i--) {
            now.r[i] = pop();
        }
        now.r[LINK] = pop();
        now.zero = pop() != 0;
        goTo(pop());
        now.active = active;
    }

    private void answerFault() {
        now.copy(before);
        int e = breachesEnabled ? fault : UNKNOWN;
        if (now.active == UNKNOWN || now.active == BREACH && e == BREACH) {
            state = LOCKED;
        } else {
            take(e);
        }
    }

    private void take(int e) {
        before.copy(now);
        fault = NO_FAULT;
        pushFrame();
        if (fault != NO_FAULT) {
            now.copy(before);
            state = LOCKED;
        } else {
            enter(e);
        }
    }

    private void pushFrame() {
        push(now.pc);
        push(now.zero ? 1 : 0);
        push(now.r[LINK]);
        for (int i = 0; i < LINK; i++) {
            push(now.r[i]);
        }
        push(FRAME_MARK + now.active);
    }

    private void enter(int e) {
        boolean toOpen = isHandledOpen(e);
        now.r[LINK] = LINK_END + 16 * now.active + (now.open ? 0 : 1);
        if (!now.open && toOpen) {
            now.clearForOpen();
        }
        now.open = toOpen;
        now.active = e;
        goTo(words[(8 * (toOpen ? openBase : closedBase) + e) & ADDRESS_MASK]);
        takenLast = e;
    }

    private boolean isHandledOpen(int e) {
        return e >= FIRST_RAISED && ((closedExceptions >> (e - FIRST_RAISED)) & 1) == 0;
    }

    private void push(int v) {
        int top = (now.stack() - 1) & WORD_MASK;
        now.setStack(top);
        write(top, v);
    }

    private int pop() {
        int top = now.stack();
        now.setStack((top + 1) & WORD_MASK);
        return read(top);
    }

    private int read(int address) {
        int at = address & ADDRESS_MASK;
        if (now.open && kinds[at] != KIND_OPEN) {
            fault = BREACH;
            return 0;
        }
        return words[at];
    }

    private void write(int address, int v) {
        int at = address & ADDRESS_MASK;
        if (now.open && kinds[at] != KIND_OPEN) {
            fault = BREACH;
        }
        if (fault == NO_FAULT) {
            words[at] = v;
        }
    }

    /** All that a fault takes back. */
    private static final class Registers {
        /** R0 .. R6; the eighth is never named, it keeps every index of three bits inside the row. */
        final int[] r;
        int closedStack;
        int openStack;
        int pc;
        boolean zero;
        boolean open;
        int active;

        Registers() {
            r = new int[8];
            closedStack = ADDRESSES;
            openStack = ADDRESSES;
        }

        void copy(Registers from) {
            System.arraycopy(from.r, 0, r, 0, 8);
            closedStack = from.closedStack;
            openStack = from.openStack;
            pc = from.pc;
            zero = from.zero;
            open = from.open;
            active = from.active;
        }

        int stack() {
            return open ? openStack : closedStack;
        }

        void setStack(int v) {
            if (open) {
                openStack = v;
            } else {
                closedStack = v;
            }
        }

        void clearForOpen() {
            for (int i = 0; i < LINK; i++) {
                r[i] = 0;
            }
            zero = false;
        }
    }
}
