/**
 * The document read a second time, with faults as exceptions and kinds looked up in the regions at every access:
 * what TwoWorlds answers is held against what this answers.
 */
final class SecondReading {
    private static final int CLOSED = 0;
    private static final int OPEN = 1;

    private final int[] memory = new int[256];
    private final int[][] regions = new int[4][3];
    private final int[] r = new int[7];
    private final int[] stacks = {256, 256};
    private int pc;
    private int zero;
    private int world = CLOSED;
    private int active;
    private int state;
    private int pending;
    private int last;
    private boolean enabled = true;
    private int closed;
    private final int[] bases = {0, 0};

    /** A fault of an instruction, or of a taking. */
    private static final class Fault extends Exception {
        private static final long serialVersionUID = 1L;
        private final int exception;

        Fault(int exception) {
            this.exception = exception;
        }
    }

    private static boolean in(int v, int first, int last) {
        return first <= v && v <= last;
    }

    int poke(int address, int v) {
        int at = Math.floorMod(address, 256);
        int was = memory[at];
        memory[at] = Math.floorMod(v, 65536);
        return was;
    }

    boolean fill(int address, long words) {
        boolean fine = in(address, 0, 252);
        for (int i = 0; fine && i < 4; i++) {
            memory[address + i] = (int) Math.floorMod(words >> 16 * i, 65536L);
        }
        return fine;
    }

    boolean region(int k, int first, int last, int kind) {
        boolean fine = in(k, 0, 3) && in(kind, 0, 2) && in(first, 0, 255) && in(last, 0, 255);
        if (fine) {
            regions[k] = new int[] {first, last, kind};
        }
        return fine;
    }

    boolean settings(boolean breaches, int closedOnes, int closedBase, int openBase) {
        boolean fine = in(closedOnes, 0, 15) && in(closedBase, 0, 31) && in(openBase, 0, 31);
        if (fine) {
            enabled = breaches;
            closed = closedOnes;
            bases[CLOSED] = closedBase;
            bases[OPEN] = openBase;
        }
        return fine;
    }

    boolean begin(int at, boolean open, int closedStack, int openStack) {
        boolean fine = in(at, 0, 255);
        if (fine) {
            pc = at;
            world = open ? OPEN : CLOSED;
            stacks[CLOSED] = Math.floorMod(closedStack, 65536);
            stacks[OPEN] = Math.floorMod(openStack, 65536);
            active = 0;
            pending = 0;
            state = 0;
        }
        return fine;
    }

    boolean set(int k, int v) {
        boolean fine = in(k, 0, 6);
        if (fine) {
            r[k] = Math.floorMod(v, 65536);
        }
        return fine;
    }

    boolean interrupt(int e) {
        boolean fine = in(e, 3, 6);
        if (fine) {
            pending = pending | 1 << e;
        }
        return fine;
    }

    int run(int n) {
        if (!in(n, 0, 200)) {
            return -1;
        }
        for (int made = 0; made < n; made++) {
            if (state != 0) {
                return made;
            }
            step();
        }
        return n;
    }

    int word(int address) {
        return memory[Math.floorMod(address, 256)];
    }

    int register(int k) {
        if (in(k, 0, 6)) {
            return r[k];
        }
        int[] others = {pc, stacks[CLOSED], stacks[OPEN], zero, world, active, state, pending, last};
        return in(k, 7, 15) ? others[k - 7] : -1;
    }

    int kind(int address) {
        int at = Math.floorMod(address, 256);
        int kind = 0;
        int count = 0;
        for (int[] region : regions) {
            if (region[2] != 0 && in(at, region[0], region[1])) {
                kind = region[2];
                count++;
            }
        }
        return count == 1 ? kind : 0;
    }

    private int[] registers() {
        return new int[] {r[0], r[1], r[2], r[3], r[4], r[5], r[6], stacks[0], stacks[1], pc, zero, world, active};
    }

    private void takeBack(int[] saved) {
        System.arraycopy(saved, 0, r, 0, 7);
        stacks[CLOSED] = saved[7];
        stacks[OPEN] = saved[8];
        pc = saved[9];
        zero = saved[10];
        world = saved[11];
        active = saved[12];
    }

    private void step() {
        for (int e = 3; e <= 6; e++) {
            if ((pending & 1 << e) != 0 && (active == 0 || e < active)) {
                pending -= 1 << e;
                take(e);
                break;
            }
        }
        if (state != 0) {
            return;
        }
        int[] saved = registers();
        try {
            instruction(fetched());
        } catch (Fault fault) {
            takeBack(saved);
            int e = fault.exception == 2 && !enabled ? 1 : fault.exception;
            if (active == 1 || active == 2 && e == 2) {
                state = 2;
            } else {
                take(e);
            }
        }
    }

    private int fetched() throws Fault {
        int w = memory[pc];
        int kind = kind(pc);
        boolean gate = world == OPEN && kind == 2 && w / 4096 == 10;
        boolean fine = world == CLOSED ? kind != 1 : kind == 1 || gate;
        if (!fine) {
            throw new Fault(2);
        }
        if (gate) {
            world = CLOSED;
            r[6] = r[6] % 32768 + 32768;
        }
        return w;
    }

    private int read(int address) throws Fault {
        if (world == OPEN && kind(address) != 1) {
            throw new Fault(2);
        }
        return word(address);
    }

    private void write(int address, int v) throws Fault {
        if (world == OPEN && kind(address) != 1) {
            throw new Fault(2);
        }
        poke(address, v);
    }

    private void push(int v) throws Fault {
        stacks[world] = Math.floorMod(stacks[world] - 1, 65536);
        write(stacks[world], v);
    }

    private int pop() throws Fault {
        int v = read(stacks[world]);
        stacks[world] = (stacks[world] + 1) % 65536;
        return v;
    }

    /** Looks at a register that an instruction names. */
    private int named(int k) throws Fault {
        if (k == 7) {
            throw new Fault(1);
        }
        return r[k];
    }

    private void onlyClosed() throws Fault {
        if (world == OPEN) {
            throw new Fault(1);
        }
    }

    private void instruction(int w) throws Fault {
        int a = w / 512 % 8;
        int b = w / 64 % 8;
        int c = w / 8 % 8;
        int n = w % 64;
        int m = w % 512;
        int next = (pc + 1) % 256;
        int go = next;
        switch (w / 4096) {
            case 0 -> {
                named(a);
                r[a] = m;
            }
            case 1 -> {
                named(a);
                r[a] = (named(b) + named(c)) % 65536;
            }
            case 2 -> {
                named(a);
                r[a] = Math.floorMod(named(b) - named(c), 65536);
                zero = r[a] == 0 ? 1 : 0;
            }
            case 3 -> {
                named(a);
                r[a] = read(named(b) + n);
            }
            case 4 -> {
                named(a);
                write(named(b) + n, r[a]);
            }
            case 5 -> push(named(a));
            case 6 -> {
                named(a);
                r[a] = pop();
            }
            case 7 -> go = m % 256;
            case 8 -> go = zero == 1 ? m % 256 : next;
            case 9 -> {
                go = named(b) % 256;
                r[6] = next;
            }
            case 11 -> {
                onlyClosed();
                go = named(b) % 256;
                world = OPEN;
            }
            case 12 -> {
                onlyClosed();
                go = named(b) % 256;
                push(next);
                push(4096);
                r[6] = 65520;
                world = OPEN;
            }
            case 13 -> go = returned();
            case 14 -> pending = pending | 1 << 3 + c % 4;
            case 15 -> {
                onlyClosed();
                state = 1;
            }
            default -> {
            }
        }
        pc = go;
    }

    private int returned() throws Fault {
        int link = r[6];
        if (link < 32768) {
            return link % 256;
        }
        if (in(link, 32768, 65407) && world == CLOSED) {
            world = OPEN;
            return link % 256;
        }
        if (link == 65520 && world == OPEN) {
            world = CLOSED;
            has(4096);
            return pop() % 256;
        }
        if (in(link, 65408, 65519) && active != 0) {
            return ended(link - 65408);
        }
        throw new Fault(2);
    }

    private void has(int mark) throws Fault {
        if (pop() != mark) {
            throw new Fault(2);
        }
    }

    private int ended(int k) throws Fault {
        world = k % 2 == 1 ? CLOSED : OPEN;
        has(1000 + k / 16);
        for (int i = 5; i >= 0; i--) {
            r[i] = pop();
        }
        r[6] = pop();
        zero = pop() != 0 ? 1 : 0;
        active = k / 16;
        return pop() % 256;
    }

    private void take(int e) {
        int[] saved = registers();
        int[] frame = {pc, zero, r[6], r[0], r[1], r[2], r[3], r[4], r[5], 1000 + active};
        try {
            for (int v : frame) {
                push(v);
            }
        } catch (Fault fault) {
            takeBack(saved);
            state = 2;
            return;
        }
        int to = e >= 3 && (closed & 1 << e - 3) == 0 ? OPEN : CLOSED;
        r[6] = 65408 + 16 * active + (world == CLOSED ? 1 : 0);
        if (world == CLOSED && to == OPEN) {
            takeBack(new int[] {0, 0, 0, 0, 0, 0, r[6], stacks[0], stacks[1], pc, 0, world, active});
        }
        world = to;
        active = e;
        last = e;
        pc = memory[8 * bases[to] + e] % 256;
    }
}
