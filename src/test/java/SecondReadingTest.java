import java.util.Random;

/** Runs of 512 random calls, the odd ones among them too: each is answered as the document, read a second time, says. */
public final class SecondReadingTest {
    private static final int CALLS = 512;
    private static final int ROUNDS = 4000;
    private static final int[] ODD = {-1, 0, 1, 3, 4, 6, 7, 15, 16, 31, 32, 60, 64, 96, 180, 191, 192, 200, 201, 252, 253,
        255, 256, 32767, 32768, 65407, 65408, 65409, 65519, 65520, 65521, 65535, 65536, Integer.MIN_VALUE,
        Integer.MAX_VALUE};

    private final Random random;
    private final int round;
    private final TwoWorlds x = new TwoWorlds();
    private final SecondReading due = new SecondReading();
    private int calls;
    /** From the first wrong answer on the two machines differ, and what follows would tell nothing. */
    private boolean apart;

    private SecondReadingTest(int round) {
        this.round = round;
        this.random = new Random(round);
    }

    public static void main(String[] args) {
        for (int round = 0; round < ROUNDS; round++) {
            new SecondReadingTest(round).goThrough();
        }
        Check.end();
    }

    private void goThrough() {
        layOut();
        while (calls < CALLS - 24 && !apart) {
            oneCall();
            look(random.nextInt(16));
        }
        for (int k = 0; calls < CALLS && !apart; k++) {
            if (k < 16) {
                look(k);
            } else {
                int at = random.nextInt(256);
                same("word(" + at + ")", x.word(at), due.word(at));
            }
        }
    }

    private void same(String call, long got, long want) {
        calls++;
        if (!apart) {
            Check.same("round " + round + ", call " + calls + ": " + call, got, want);
            apart = got != want;
        }
    }

    private void same(String call, boolean got, boolean want) {
        same(call, got ? 1 : 0, want ? 1 : 0);
    }

    private void look(int k) {
        same("register(" + k + ")", x.register(k), due.register(k));
    }

    /** Gates, open and closed words as in {@link Asm#machine()}, with a program of likely instructions in all of them. */
    private void layOut() {
        region(0, 64, 71, 2);
        region(1, 96, 191, 1);
        settings(random.nextInt(4) != 0, random.nextInt(16), 0, random.nextInt(3) == 0 ? 0 : 20);
        for (int at = 0; at < 252; at += 4) {
            fill(at, likely() | likely() << 16 | likely() << 32 | likely() << 48);
        }
        for (int e = 1; e <= 6; e++) {
            poke(e, 72 + random.nextInt(20));
            poke(160 + e, 96 + random.nextInt(40));
        }
        begin(random.nextBoolean() ? 100 : 20, random.nextBoolean(), 60, 180);
    }

    /** Mostly with registers that there are, and with jumps that stay near code of either world. */
    private long likely() {
        int op = random.nextInt(16);
        if (op == 15 && random.nextInt(3) != 0 || random.nextInt(6) == 0) {
            op = random.nextBoolean() ? 13 : 10;
        }
        int w = op << 12 | random.nextInt(4096);
        if (random.nextInt(20) != 0) {
            w = op << 12 | random.nextInt(7) << 9 | random.nextInt(7) << 6 | random.nextInt(7) << 3 | random.nextInt(8);
        }
        return op == 0 ? w & ~511 | 64 + random.nextInt(100) : w;
    }

    private int odd(int usual) {
        return random.nextInt(6) == 0 ? ODD[random.nextInt(ODD.length)] : random.nextInt(usual);
    }

    private void oneCall() {
        switch (random.nextInt(16)) {
            case 0 -> poke(odd(256), odd(65536));
            case 1 -> poke(random.nextInt(256), (int) likely());
            case 2 -> fill(odd(253), random.nextLong());
            case 3 -> anyRegion();
            case 4 -> settings(random.nextBoolean(), odd(16), odd(32), odd(32));
            case 5 -> begin(odd(256), random.nextBoolean(), odd(65536), 97 + random.nextInt(96));
            case 6 -> begin(odd(256), random.nextBoolean(), 60, odd(65536));
            case 7, 8 -> set(odd(7), odd(65536));
            case 9 -> set(6, 65408 + random.nextInt(128));
            case 10 -> interrupt(odd(7));
            case 11 -> {
                int k = odd(16);
                look(k);
            }
            case 12 -> looksAt(odd(256));
            case 13 -> run(odd(201));
            default -> run(1);
        }
    }

    private void anyRegion() {
        if (random.nextBoolean()) {
            region(2 + random.nextInt(2), random.nextInt(256), random.nextInt(256), 0);
        } else {
            region(odd(4), odd(256), odd(256), odd(3));
        }
    }

    private void looksAt(int at) {
        same("word(" + at + ")", x.word(at), due.word(at));
        same("kind(" + at + ")", x.kind(at), due.kind(at));
    }

    private void poke(int at, int v) {
        same("poke(" + at + ", " + v + ")", x.poke(at, v), due.poke(at, v));
    }

    private void fill(int at, long words) {
        same("fill(" + at + ", " + words + ")", x.fill(at, words), due.fill(at, words));
    }

    private void region(int k, int first, int last, int kind) {
        same("region(" + k + ", " + first + ", " + last + ", " + kind + ")",
            x.region(k, first, last, kind), due.region(k, first, last, kind));
    }

    private void settings(boolean enabled, int closed, int closedBase, int openBase) {
        same("settings(" + enabled + ", " + closed + ", " + closedBase + ", " + openBase + ")",
            x.settings(enabled, closed, closedBase, openBase), due.settings(enabled, closed, closedBase, openBase));
    }

    private void begin(int pc, boolean open, int closedStack, int openStack) {
        same("begin(" + pc + ", " + open + ", " + closedStack + ", " + openStack + ")",
            x.begin(pc, open, closedStack, openStack), due.begin(pc, open, closedStack, openStack));
    }

    private void set(int r, int v) {
        same("set(" + r + ", " + v + ")", x.set(r, v), due.set(r, v));
    }

    private void interrupt(int e) {
        same("interrupt(" + e + ")", x.interrupt(e), due.interrupt(e));
    }

    private void run(int n) {
        same("run(" + n + ")", x.run(n), due.run(n));
    }
}
