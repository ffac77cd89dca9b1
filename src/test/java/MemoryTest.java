/** Promises 2 poke, 3 fill and 10 word. */
public final class MemoryTest {
    public static void main(String[] args) {
        poke();
        fill();
        fillRefuses();
        Check.end();
    }

    private static void poke() {
        TwoWorlds x = new TwoWorlds();
        Check.same("poke a new word", x.poke(7, 500), 0);
        Check.same("poke it again", x.poke(7, 65535), 500);
        Check.same("and again", x.poke(7, 65536), 65535);
        Check.same("65536 is 0", x.word(7), 0);
        x.poke(7, -1);
        Check.same("-1 is 65535", x.word(7), 65535);
        x.poke(7, Integer.MIN_VALUE + 3);
        Check.same("only 16 bits", x.word(7), 3);
        Check.same("address 263 is 7", x.poke(263, 11), 3);
        Check.same("address -249 is 7", x.poke(-249, 12), 11);
        Check.same("word(7)", x.word(7), 12);
        Check.same("word(263)", x.word(263), 12);
        Check.same("word(-249)", x.word(-249), 12);
        x.poke(Integer.MIN_VALUE, 1);
        x.poke(Integer.MAX_VALUE, 2);
        Check.same("word(0)", x.word(0), 1);
        Check.same("word(255)", x.word(255), 2);
        Check.same("word(MAX_VALUE)", x.word(Integer.MAX_VALUE), 2);
        Check.words("neighbours", x, 6, 0, 12, 0);
    }

    private static void fill() {
        TwoWorlds x = new TwoWorlds();
        Check.yes("fill(0)", x.fill(0, 0x0004_0003_0002_0001L));
        Check.words("lowest first", x, 0, 1, 2, 3, 4, 0);
        Check.yes("fill(252)", x.fill(252, 0xFFFF_8000_7FFF_ABCDL));
        Check.words("the last four", x, 251, 0, 0xABCD, 0x7FFF, 0x8000, 0xFFFF);
        Check.yes("fill(1)", x.fill(1, -1L));
        Check.words("over words", x, 0, 1, 65535, 65535, 65535, 65535, 0);
    }

    private static void fillRefuses() {
        TwoWorlds x = new TwoWorlds();
        int[] wrong = {-1, -4, 253, 255, 256, 512, Integer.MIN_VALUE, Integer.MAX_VALUE};
        for (int address : wrong) {
            Check.no("fill(" + address + ")", x.fill(address, -1L));
        }
        for (int i = 0; i < 256; i++) {
            Check.same("word(" + i + ") after refusals", x.word(i), 0);
        }
    }
}
