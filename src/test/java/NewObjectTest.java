/** Promise 1. */
public final class NewObjectTest {
    public static void main(String[] args) {
        Check.registers("new", new TwoWorlds(), 0, 0, 0, 0, 0, 0, 0, 0, 0, 256, 256, 0, 0, 0, 0, 0, 0);
        wordsAreZeroAndClosed();
        breachesAreEnabled();
        raisedExceptionsAreOpen();
        objectsAreApart();
        Check.end();
    }

    private static void wordsAreZeroAndClosed() {
        TwoWorlds x = new TwoWorlds();
        for (int i = 0; i < 256; i++) {
            Check.same("word(" + i + ")", x.word(i), 0);
            Check.same("kind(" + i + ")", x.kind(i), 0);
        }
    }

    private static void breachesAreEnabled() {
        TwoWorlds x = new TwoWorlds();
        x.region(0, 50, 50, 1);
        x.begin(50, false, 256, 256);
        Check.same("step at an open word", x.run(1), 1);
        Check.same("the breach", x.register(15), 2);
    }

    private static void raisedExceptionsAreOpen() {
        for (int e = 3; e <= 6; e++) {
            TwoWorlds x = new TwoWorlds();
            x.region(0, 50, 60, 1);
            x.poke(e, 50);
            x.interrupt(e);
            Check.same("step into " + e, x.run(1), 1);
            Check.registers("exception " + e + " by base 0", x, 7, 51, 246, 256, 0, 1, e, 0, 0, e);
        }
    }

    private static void objectsAreApart() {
        TwoWorlds x = new TwoWorlds();
        TwoWorlds y = new TwoWorlds();
        x.poke(3, 9);
        x.set(2, 8);
        x.region(0, 0, 9, 1);
        Check.same("the other's word", y.word(3), 0);
        Check.same("the other's register", y.register(2), 0);
        Check.same("the other's kind", y.kind(3), 0);
    }
}
