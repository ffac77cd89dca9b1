import java.util.Random;

/** No call throws, answers stay in their ranges, and the same calls give the same answers. */
public final class RandomCallsTest {
    private static final int[] ODD = {-1, 0, 1, 3, 6, 7, 60, 64, 96, 180, 200, 255, 256, 65408, 65409, 65520, 65535,
        65536, Integer.MIN_VALUE, Integer.MAX_VALUE};

    public static void main(String[] args) {
        for (int seed = 0; seed < 400; seed++) {
            Check.same("seed " + seed, answers(seed), answers(seed));
        }
        Check.end();
    }

    private static long answers(int seed) {
        Random random = new Random(seed);
        TwoWorlds x = Asm.machine();
        for (int at = 0; at < 252; at += 4) {
            x.fill(at, random.nextLong());
        }
        long sum = 0;
        for (int i = 0; i < 430; i++) {
            sum = sum * 31 + call(x, random);
            registerRanges(x);
        }
        wordRanges(x);
        return sum;
    }

    private static int odd(Random random, int usual) {
        return random.nextInt(4) == 0 ? ODD[random.nextInt(ODD.length)] : random.nextInt(usual);
    }

    private static long call(TwoWorlds x, Random random) {
        switch (random.nextInt(9)) {
            case 0:
                return x.poke(odd(random, 256), odd(random, 65536));
            case 1:
                return x.fill(odd(random, 253), random.nextLong()) ? 1 : 0;
            case 2:
                return x.region(odd(random, 4), odd(random, 256), odd(random, 256), odd(random, 3)) ? 1 : 0;
            case 3:
                return x.settings(random.nextBoolean(), odd(random, 16), odd(random, 32), odd(random, 32)) ? 1 : 0;
            case 4:
                return x.begin(odd(random, 256), random.nextBoolean(), odd(random, 65536), odd(random, 65536)) ? 1 : 0;
            case 5:
                return x.set(odd(random, 7), odd(random, 65536)) ? 1 : 0;
            case 6:
                return x.interrupt(odd(random, 7)) ? 1 : 0;
            default:
                return x.run(odd(random, 201));
        }
    }

    private static void registerRanges(TwoWorlds x) {
        int[] last = {65535, 65535, 65535, 65535, 65535, 65535, 65535, 255, 65535, 65535, 1, 1, 6, 2, 120, 6};
        for (int k = 0; k < last.length; k++) {
            int v = x.register(k);
            Check.yes("register(" + k + ") is " + v, v >= 0 && v <= last[k]);
        }
        Check.same("pending bits", x.register(14) & ~120, 0);
    }

    private static void wordRanges(TwoWorlds x) {
        for (int at = 0; at < 256; at++) {
            int w = x.word(at);
            Check.yes("word(" + at + ") is " + w, w >= 0 && w <= 65535);
        }
    }
}
