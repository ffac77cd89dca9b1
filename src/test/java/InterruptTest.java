/** Promise 8, and the order in which pending exceptions are taken. */
public final class InterruptTest {
    public static void main(String[] args) {
        pending();
        leastFirst();
        onlyLessThanActive();
        notInAFault();
        lockedByTheTaking();
        Check.end();
    }

    private static void pending() {
        TwoWorlds x = Asm.closed(Asm.STOP);
        int[] wrong = {-1, 0, 1, 2, 7, 8, 32, 35, Integer.MIN_VALUE, Integer.MAX_VALUE};
        for (int e : wrong) {
            Check.no("interrupt(" + e + ")", x.interrupt(e));
        }
        Check.same("none is pending", x.register(Asm.PENDING), 0);
        Check.yes("interrupt(3)", x.interrupt(3));
        Check.yes("interrupt(3) again", x.interrupt(3));
        Check.same("3", x.register(Asm.PENDING), 8);
        Check.yes("interrupt(6)", x.interrupt(6));
        Check.yes("interrupt(5)", x.interrupt(5));
        Check.yes("interrupt(4)", x.interrupt(4));
        Check.same("all", x.register(Asm.PENDING), 8 + 16 + 32 + 64);
        Check.same("no step", x.run(0), 0);
        Check.registers("nothing is taken by itself", x, 7, 20, 60, 180, 0, 0, 0, 0, 120, 0);
        x.begin(20, false, 60, 180);
        x.run(1);
        Check.yes("interrupt while it stands still", x.interrupt(4));
        Check.same("is pending", x.register(Asm.PENDING), 16);
        Check.same("but it stands still", x.run(9), 0);
    }

    private static void leastFirst() {
        TwoWorlds x = Asm.closed(Asm.GATE);
        x.settings(true, 15, 0, 20);
        for (int e = 3; e <= 6; e++) {
            Asm.put(x, 80 + e, Asm.RETURN);
            x.interrupt(9 - e);
        }
        int left = 120;
        for (int e = 3; e <= 6; e++) {
            Check.same("a step for " + e, x.run(1), 1);
            left -= 1 << e;
            Check.registers("taken and ended", x, 7, 20, 60, 180, 0, 0, 0, 0, left, e);
        }
        x.run(1);
        Check.same("then the instruction", x.register(Asm.PC), 21);
    }

    private static void onlyLessThanActive() {
        TwoWorlds x = Asm.closed(Asm.GATE);
        x.settings(true, 15, 0, 20);
        Asm.put(x, 85, Asm.GATE, Asm.GATE, Asm.GATE);
        x.interrupt(5);
        x.run(1);
        x.interrupt(6);
        x.interrupt(5);
        x.run(1);
        Check.registers("5 and 6 wait for 5", x, 7, 87, 50, 180, 0, 0, 5, 0, 96, 5);
        x.interrupt(4);
        x.run(1);
        Check.registers("4 interrupts 5", x, 6, 65408 + 16 * 5 + 1, 85, 40, 180, 0, 0, 4, 0, 96, 4);
        Check.same("the mark", x.word(40), 1005);
        Check.same("the return", x.word(49), 87);
        x = Asm.closed(Asm.op(0, 7, 0, 0));
        x.run(1);
        x.interrupt(3);
        x.run(1);
        Check.registers("1 is not interrupted", x, 7, 82, 50, 180, 0, 0, 1, 0, 8, 1);
    }

    private static void notInAFault() {
        TwoWorlds x = Asm.closed(Asm.GATE);
        x.poke(163, 7);
        x.interrupt(3);
        Check.same("taking, and a breach of its first instruction", x.run(1), 1);
        Check.registers("the fault goes back to the taking", x, 6, 65408 + 48, 82, 50, 170, 0, 0, 2, 0, 0, 2);
        Check.same("1000 + 3", x.word(170), 1003);
        Check.same("return to the vector", x.word(179), 7);
        Check.same("LINK of 3", x.word(177), 65409);
    }

    private static void lockedByTheTaking() {
        TwoWorlds x = Asm.open(Asm.set(0, 3));
        x.begin(100, true, 60, 97);
        x.interrupt(4);
        x.interrupt(5);
        Check.same("the step counts", x.run(5), 1);
        Check.registers("locked", x, 0, 0, 0, 0, 0, 0, 0, 0, 100, 60, 97, 0, 1, 0, 2, 32, 0);
        Check.same("what was pushed stays", x.word(96), 100);
        Check.same("and no more", x.word(95), 0);
    }
}
