import java.util.Random;

/** The document's first line over random code: two machines that differ only in what is closed go side by side. */
public final class FirstLineTest {
    private static final int ROUNDS = 30000;
    /** Few enough for an object's 512 calls, all its registers read after each and all its words at the end. */
    private static final int STEPS = 8;
    private static final int FIRST_GATE = 64;
    private static final int LAST_GATE = 71;
    private static final int FIRST_OPEN = 96;
    private static final int LAST_OPEN = 191;
    private static final int OPEN_VECTORS = 160;

    private final Random random;
    private final String round;
    private final TwoWorlds one = new TwoWorlds();
    private final TwoWorlds other = new TwoWorlds();
    private final int[] words = new int[256];

    private FirstLineTest(int round) {
        this.random = new Random(round);
        this.round = "round " + round;
    }

    public static void main(String[] args) {
        for (int round = 0; round < ROUNDS; round++) {
            new FirstLineTest(round).openCode();
            new FirstLineTest(round).closedCodeInterrupted();
        }
        Check.end();
    }

    /** "code of the open one cannot see or change what is closed, comes into the closed one only where a gate stands" */
    private void openCode() {
        layOut();
        for (int r = 0; r <= Asm.LINK; r++) {
            int v = random.nextInt(3) == 0 ? 65400 + random.nextInt(136) : random.nextInt(256);
            one.set(r, v);
            other.set(r, v);
        }
        int stack = 100 + random.nextInt(100);
        one.begin(FIRST_OPEN, true, random.nextInt(65536), stack);
        other.begin(FIRST_OPEN, true, random.nextInt(65536), stack);
        int[] before = registers(one);
        for (int i = 0; i < STEPS && isOpenAndGoing(before); i++) {
            boolean taking = before[Asm.PENDING] != 0;
            one.run(1);
            other.run(1);
            int[] after = registers(one);
            sameButForClosed(after, registers(other));
            if (after[Asm.OPEN] == 0 && !taking) {
                Check.yes(round + ": the way into the closed world", isWayIn(before, after));
            }
            before = after;
        }
        for (int at = 0; at < 256; at++) {
            boolean open = isOpen(at);
            if (!open && one.word(at) != words[at]) {
                Check.same(round + ": the closed word at " + at, one.word(at), words[at]);
            } else if (open && isOpenAndGoing(before) && one.word(at) != other.word(at)) {
                Check.same(round + ": the open word at " + at, one.word(at), other.word(at));
            }
        }
    }

    /** "nothing closed is left in the registers when open code begins": here it begins by an exception. */
    private void closedCodeInterrupted() {
        layOut();
        one.poke(20, Asm.sub(0, 1, 1));
        other.poke(20, Asm.set(0, 1));
        for (int r = 0; r <= Asm.LINK; r++) {
            one.set(r, random.nextInt(65536));
            other.set(r, random.nextInt(65536));
        }
        one.begin(20, false, 60, 180);
        other.begin(20, false, 90, 180);
        one.run(1);
        other.run(1);
        Check.same(round + ": ZERO in one", one.register(Asm.ZERO), 1);
        Check.same(round + ": ZERO in the other", other.register(Asm.ZERO), 0);
        int e = 3 + random.nextInt(4);
        one.interrupt(e);
        other.interrupt(e);
        one.run(1);
        other.run(1);
        sameButForClosed(registers(one), registers(other));
    }

    /** Random words: the same in both where they are open or for gates, others where they are closed. */
    private void layOut() {
        for (int at = 0; at < 256; at++) {
            words[at] = random.nextInt(3) != 0 ? likely() : random.nextInt(65536);
        }
        for (int e = 3; e <= 6; e++) {
            words[OPEN_VECTORS + e] = FIRST_OPEN + random.nextInt(60);
        }
        TwoWorlds[] both = {one, other};
        for (TwoWorlds x : both) {
            x.region(0, FIRST_GATE, LAST_GATE, 2);
            x.region(1, FIRST_OPEN, LAST_OPEN, 1);
            x.settings(true, 0, 0, OPEN_VECTORS / 8);
            for (int at = 0; at < 256; at += 4) {
                boolean alike = x == one || isOpen(at) || isForGates(at);
                x.fill(at, alike ? four(at) : random.nextLong());
            }
        }
    }

    private long four(int at) {
        return words[at] | (long) words[at + 1] << 16 | (long) words[at + 2] << 32 | (long) words[at + 3] << 48;
    }

    private int likely() {
        int a = random.nextInt(7);
        int b = random.nextInt(7);
        int[] ops = {Asm.GATE, Asm.RETURN, Asm.go(FIRST_GATE + random.nextInt(8)), Asm.raise(a), Asm.call(b),
            Asm.load(a, b, random.nextInt(64)), Asm.store(a, b, random.nextInt(64)), Asm.push(a), Asm.pop(a),
            Asm.add(a, b, a), Asm.sub(a, b, b)};
        return ops[random.nextInt(ops.length)];
    }

    private static boolean isOpen(int at) {
        return at >= FIRST_OPEN && at <= LAST_OPEN;
    }

    private static boolean isForGates(int at) {
        return at >= FIRST_GATE && at <= LAST_GATE;
    }

    private static int[] registers(TwoWorlds x) {
        int[] all = new int[16];
        for (int k = 0; k < 16; k++) {
            all[k] = x.register(k);
        }
        return all;
    }

    private static boolean isOpenAndGoing(int[] registers) {
        return registers[Asm.OPEN] == 1 && registers[Asm.STATE] == 0;
    }

    /** Once both are closed, or locked, they may differ in all. */
    private void sameButForClosed(int[] registers, int[] others) {
        Check.yes(round + ": open in both or in none", isOpenAndGoing(registers) == isOpenAndGoing(others));
        for (int k = 0; k < 16 && isOpenAndGoing(registers); k++) {
            if (k != Asm.CLOSED_STACK) {
                Check.same(round + ": register(" + k + ")", registers[k], others[k]);
            }
        }
    }

    /** A gate, a fault, or a RETURN to where closed code was left. */
    private boolean isWayIn(int[] before, int[] after) {
        int pc = before[Asm.PC];
        int w = one.word(pc);
        boolean gate = isForGates(pc) && w >> 12 == 10
            && after[Asm.PC] == pc + 1 && after[Asm.LINK] == (before[Asm.LINK] | 32768);
        boolean fault = after[Asm.ACTIVE] == 1 || after[Asm.ACTIVE] == 2;
        boolean back = isOpen(pc) && w >> 12 == 13 && before[Asm.LINK] >= 65408 && before[Asm.LINK] <= 65520;
        return gate || fault || back;
    }
}
