/** Promise 5. */
public final class SettingsTest {
    public static void main(String[] args) {
        enabled();
        worlds();
        bases();
        refusals();
        Check.end();
    }

    private static void enabled() {
        TwoWorlds x = Asm.open(Asm.load(0, 0, 0));
        x.settings(false, 0, 0, 20);
        Check.same("a breach when not enabled", x.run(1), 1);
        Check.registers("is exception 1", x, Asm.PC, 81, 60, 170, 0, 0, 1, 0, 0, 1);
        x = Asm.open(Asm.load(0, 0, 0));
        Check.yes("enabled again", x.settings(true, 0, 0, 20));
        x.run(1);
        Check.registers("is exception 2", x, Asm.PC, 82, 60, 170, 0, 0, 2, 0, 0, 2);
    }

    private static void worlds() {
        for (int closed = 0; closed < 16; closed++) {
            for (int e = 3; e <= 6; e++) {
                TwoWorlds x = Asm.closed(Asm.GATE);
                Check.yes("settings(true, " + closed + ", 0, 20)", x.settings(true, closed, 0, 20));
                Asm.put(x, 80 + e, Asm.GATE);
                Asm.put(x, 110 + e, Asm.GATE);
                x.interrupt(e);
                x.run(1);
                boolean open = (closed >> (e - 3) & 1) == 0;
                String what = "exception " + e + " by " + closed;
                Check.same(what, x.register(Asm.OPEN), open ? 1 : 0);
                Check.same(what, x.register(Asm.PC), (open ? 110 : 80) + e + 1);
            }
        }
    }

    private static void bases() {
        TwoWorlds x = Asm.closed(Asm.GATE);
        Check.yes("greatest bases", x.settings(true, 8, 31, 31));
        x.poke(254, 30);
        Asm.put(x, 30, Asm.GATE);
        x.interrupt(6);
        x.run(1);
        Check.same("vector of 6 at 254", x.register(Asm.PC), 31);
        x = Asm.closed(Asm.op(0, 7, 0, 0));
        Check.yes("different bases", x.settings(true, 8, 25, 26));
        x.poke(201, 33);
        x.run(1);
        Check.same("vector of 1 at 201", x.register(Asm.PC), 33);
        x = Asm.closed(Asm.GATE);
        x.settings(true, 1, 25, 26);
        x.poke(212, 99);
        x.interrupt(4);
        x.run(1);
        Check.same("vector of 4 at 212", x.register(Asm.PC), 100);
    }

    private static void refusals() {
        TwoWorlds x = Asm.open(Asm.load(0, 0, 0));
        int[][] wrong = {
            {-1, 5, 5}, {16, 5, 5}, {Integer.MIN_VALUE, 5, 5}, {15, -1, 5}, {15, 32, 5}, {15, 5, -1}, {15, 5, 32},
            {15, Integer.MAX_VALUE, 5}, {15, 5, Integer.MIN_VALUE}
        };
        for (int[] w : wrong) {
            Check.no("settings(false, " + w[0] + ", " + w[1] + ", " + w[2] + ")", x.settings(false, w[0], w[1], w[2]));
        }
        x.run(1);
        Check.registers("settings stay: closed", x, Asm.PC, 82, 60, 170, 0, 0, 2, 0, 0, 2);
        x.begin(20, false, 60, 180);
        x.interrupt(5);
        x.run(1);
        Check.registers("settings stay: open", x, Asm.PC, 116, 50, 180, 0, 1, 5, 0, 0, 5);
    }
}
