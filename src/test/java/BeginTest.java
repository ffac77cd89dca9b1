/** Promises 6 begin, 7 set and 11 register. */
public final class BeginTest {
    public static void main(String[] args) {
        begin();
        beginAfterTheEnd();
        beginRefuses();
        set();
        register();
        Check.end();
    }

    private static void begin() {
        TwoWorlds x = Asm.closed(Asm.op(0, 7, 0, 0));
        Asm.setAll(x, 1, 2, 3, 4, 5, 6, 7);
        x.run(1);
        x.interrupt(3);
        Check.same("something is active", x.register(Asm.ACTIVE), 1);
        Check.same("something is pending", x.register(Asm.PENDING), 8);
        int link = x.register(6);
        Check.yes("begin(255)", x.begin(255, true, 65536 + 9, -1));
        Check.registers("R0 .. R6 and what was taken last stay", x, 0,
            1, 2, 3, 4, 5, 6, link, 255, 9, 65535, 0, 1, 0, 0, 0, 1);
        Check.yes("begin(0)", x.begin(0, false, 65535, 65536));
        Check.registers("the other world", x, 7, 0, 65535, 0, 0, 0, 0, 0, 0, 1);
        x = Asm.closed(Asm.sub(0, 1, 1));
        x.run(1);
        x.begin(20, true, 1, 2);
        Check.same("ZERO stays", x.register(Asm.ZERO), 1);
    }

    private static void beginAfterTheEnd() {
        TwoWorlds x = Asm.closed(Asm.STOP, Asm.set(3, 5));
        Check.same("to STOP", x.run(9), 1);
        Check.same("it stands still", x.register(Asm.STATE), 1);
        x.begin(21, false, 60, 180);
        Check.same("not any more", x.register(Asm.STATE), 0);
        Check.same("and goes", x.run(1), 1);
        Check.same("R3", x.register(3), 5);
        x = Asm.open(Asm.load(0, 0, 0), Asm.set(3, 5));
        x.begin(100, true, 60, 96);
        Check.same("to the lock", x.run(9), 1);
        Check.same("it is locked", x.register(Asm.STATE), 2);
        x.begin(101, true, 60, 180);
        Check.same("not any more", x.register(Asm.STATE), 0);
        Check.same("and goes", x.run(1), 1);
        Check.registers("as if it had not been", x, 3, 5, 0, 0, 0, 102, 60, 180, 0, 1, 0, 0, 0, 0);
    }

    private static void beginRefuses() {
        TwoWorlds x = Asm.closed(Asm.STOP);
        x.interrupt(6);
        int[] wrong = {-1, 256, Integer.MIN_VALUE, Integer.MAX_VALUE};
        for (int pc : wrong) {
            Check.no("begin(" + pc + ")", x.begin(pc, true, 1, 2));
        }
        Check.registers("nothing changed", x, 7, 20, 60, 180, 0, 0, 0, 0, 64, 0);
        x.begin(20, false, 60, 180);
        x.run(1);
        x.begin(256, true, 1, 2);
        Check.same("still as it was", x.register(Asm.STATE), 1);
    }

    private static void set() {
        TwoWorlds x = new TwoWorlds();
        for (int r = 0; r <= 6; r++) {
            Check.yes("set(" + r + ")", x.set(r, 100 + r));
        }
        Check.registers("set", x, 0, 100, 101, 102, 103, 104, 105, 106, 0, 256, 256, 0, 0, 0, 0, 0, 0);
        x.set(0, 65535);
        x.set(1, 65536);
        x.set(2, -2);
        x.set(6, Integer.MIN_VALUE + 5);
        Check.registers("mod 65536", x, 0, 65535, 0, 65534, 103, 104, 105, 5);
        int[] wrong = {-1, 7, 8, 15, Integer.MIN_VALUE, Integer.MAX_VALUE};
        for (int r : wrong) {
            Check.no("set(" + r + ")", x.set(r, 1));
        }
        Check.registers("after refusals", x, 0, 65535, 0, 65534, 103, 104, 105, 5, 0, 256, 256, 0, 0, 0, 0, 0, 0);
    }

    private static void register() {
        TwoWorlds x = Asm.open(Asm.sub(0, 1, 1), Asm.raise(1), Asm.set(0, 1));
        Asm.setAll(x, 10, 11, 12, 13, 14, 15, 16);
        Asm.put(x, 114, Asm.raise(3), Asm.raise(2));
        x.run(4);
        Check.registers("all of them", x, 0,
            0, 11, 12, 13, 14, 15, 65408, 116, 60, 170, 1, 1, 4, 0, 1 << 5 | 1 << 6, 4);
        int[] wrong = {-1, 16, 17, Integer.MIN_VALUE, Integer.MAX_VALUE};
        for (int k : wrong) {
            Check.same("register(" + k + ")", x.register(k), -1);
        }
    }
}
