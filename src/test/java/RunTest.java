/** Promise 9. */
public final class RunTest {
    public static void main(String[] args) {
        TwoWorlds x = Asm.closed(Asm.go(20));
        int[] wrong = {-1, 201, Integer.MIN_VALUE, Integer.MAX_VALUE};
        for (int n : wrong) {
            Check.same("run(" + n + ")", x.run(n), -1);
        }
        Check.same("run(0)", x.run(0), 0);
        Check.same("run(200)", x.run(200), 200);
        wrapsRound();
        stops();
        locks();
        Check.end();
    }

    private static void wrapsRound() {
        TwoWorlds x = new TwoWorlds();
        x.begin(255, false, 60, 180);
        Check.same("run(1)", x.run(1), 1);
        Check.same("NEXT of 255", x.register(7), 0);
        Check.same("run(200)", x.run(200), 200);
        Check.same("run(100)", x.run(100), 100);
        Check.same("round", x.register(7), 300 % 256);
    }

    private static void stops() {
        TwoWorlds x = Asm.closed(Asm.set(0, 1), Asm.set(1, 2), Asm.STOP, Asm.set(2, 3));
        Check.same("run(2)", x.run(2), 2);
        Check.same("going", x.register(Asm.STATE), 0);
        Check.same("STOP counts and is the last", x.run(200), 1);
        Check.registers("still", x, 0, 1, 2, 0, 0, 0, 0, 0, 23, 60, 180, 0, 0, 0, 1, 0, 0);
        Check.same("none", x.run(200), 0);
        Check.same("BAD when still too", x.run(201), -1);
        Check.same("PC stays", x.register(Asm.PC), 23);
    }

    private static void locks() {
        TwoWorlds x = Asm.closed(Asm.set(0, 1), Asm.op(0, 7, 0, 0));
        x.poke(81, Asm.op(0, 7, 0, 0));
        Check.same("the lock counts and is the last", x.run(200), 3);
        Check.registers("locked", x, 7, 81, 50, 180, 0, 0, 1, 2, 0, 1);
        Check.same("none", x.run(200), 0);
        Check.same("BAD when locked too", x.run(-1), -1);
    }
}
