import java.util.Random;

/** Every word there is, as an instruction at a word of each kind, in both worlds: a step as SecondReading makes it. */
public final class EveryWordTest {
    private static final int WORDS = 65536;
    /** A closed word, one for gates, an open one, as in {@link Asm#machine()}. */
    private static final int[] PLACES = {20, 66, 100};
    /** Each way that RETURN goes, and its neighbours. */
    private static final int[] LINKS = {0, 99, 32767, 32768, 65407, 65408, 65409, 65424, 65505, 65519, 65520, 65521, 65535};

    public static void main(String[] args) {
        Random random = new Random(8);
        for (int w = 0; w < WORDS; w++) {
            for (int place : PLACES) {
                step(w, place, true, random);
                step(w, place, false, random);
            }
        }
        Check.end();
    }

    private static void step(int w, int place, boolean open, Random random) {
        TwoWorlds x = new TwoWorlds();
        SecondReading due = new SecondReading();
        layOut(x, due, random);
        x.poke(place, w);
        due.poke(place, w);
        int closedStack = random.nextInt(WORDS);
        int openStack = random.nextInt(4) == 0 ? random.nextInt(WORDS) : 110 + random.nextInt(70);
        x.begin(place, open, closedStack, openStack);
        due.begin(place, open, closedStack, openStack);
        String what = "word " + w + " at " + place + (open ? ", open" : ", closed");
        Check.same(what + ": run(1)", x.run(1), due.run(1));
        for (int k = 0; k < 16; k++) {
            if (x.register(k) != due.register(k)) {
                Check.same(what + ": register(" + k + ")", x.register(k), due.register(k));
            }
        }
        for (int at = 0; at < 256; at++) {
            if (x.word(at) != due.word(at)) {
                Check.same(what + ": word(" + at + ")", x.word(at), due.word(at));
            }
        }
    }

    /** Words and registers that differ from one another, so that a wrong one is seen. */
    private static void layOut(TwoWorlds x, SecondReading due, Random random) {
        x.region(0, 64, 71, 2);
        due.region(0, 64, 71, 2);
        x.region(1, 96, 191, 1);
        due.region(1, 96, 191, 1);
        boolean enabled = random.nextBoolean();
        x.settings(enabled, 5, 3, 20);
        due.settings(enabled, 5, 3, 20);
        for (int at = 0; at < 256; at += 4) {
            long words = random.nextLong();
            x.fill(at, words);
            due.fill(at, words);
        }
        for (int r = 0; r < 6; r++) {
            int v = random.nextInt(3) == 0 ? 96 + random.nextInt(96) : random.nextInt(WORDS);
            x.set(r, v);
            due.set(r, v);
        }
        int link = LINKS[random.nextInt(LINKS.length)];
        x.set(6, link);
        due.set(6, link);
    }
}
