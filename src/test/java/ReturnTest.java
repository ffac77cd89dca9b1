/** Promise 9: OUT, OUT CALL and RETURN. */
public final class ReturnTest {
    public static void main(String[] args) {
        out();
        outCall();
        returns();
        outCallReturns();
        ends();
        endBreaches();
        framesWithoutAnEnd();
        Check.end();
    }

    private static void out() {
        TwoWorlds x = Asm.closed(Asm.out(2));
        Asm.setAll(x, 1, 2, 256 + 120, 4, 5, 6, 7);
        x.run(1);
        Check.registers("OUT", x, 0, 1, 2, 376, 4, 5, 6, 7, 120, 60, 180, 0, 1, 0, 0, 0, 0);
        x = Asm.closed(Asm.sub(0, 0, 0), Asm.out(6));
        x.set(6, 121);
        x.run(2);
        Check.registers("OUT by LINK, ZERO stays", x, 6, 121, 121, 60, 180, 1, 1);
    }

    private static void outCall() {
        TwoWorlds x = Asm.closed(Asm.outCall(6));
        Asm.setAll(x, 1, 2, 3, 4, 5, 6, 512 + 130);
        x.run(1);
        Check.registers("OUT CALL", x, 0, 1, 2, 3, 4, 5, 6, 65520, 130, 58, 180, 0, 1, 0, 0, 0, 0);
        Check.words("pushed", x, 57, 0, 4096, 21, 0);
        x = Asm.machine();
        x.poke(255, Asm.outCall(0));
        x.poke(59, 3);
        x.begin(255, false, 60, 180);
        x.run(1);
        Check.same("NEXT of 255", x.word(59), 0);
    }

    private static TwoWorlds returnBy(boolean open, int link) {
        TwoWorlds x = open ? Asm.open(Asm.RETURN) : Asm.closed(Asm.RETURN);
        x.set(6, link);
        Check.same("a step", x.run(1), 1);
        return x;
    }

    private static void returns() {
        int[] low = {0, 255, 256 + 7, 32767};
        for (int link : low) {
            Check.registers("closed", returnBy(false, link), 6, link, link % 256, 60, 180, 0, 0, 0, 0, 0, 0);
            Check.registers("open", returnBy(true, link), 6, link, link % 256, 60, 180, 0, 1, 0, 0, 0, 0);
        }
        int[] gone = {32768, 32768 + 99, 65407};
        for (int link : gone) {
            Check.registers("out", returnBy(false, link), 6, link, link % 256, 60, 180, 0, 1, 0, 0, 0, 0);
            Check.registers("open: breach", returnBy(true, link), 6, 65408, 82, 60, 170, 0, 0, 2, 0, 0, 2);
        }
        int[] never = {65408, 65409, 65519, 65521, 65535};
        for (int link : never) {
            TwoWorlds x = returnBy(false, link);
            Check.registers("closed: breach", x, 6, 65409, 82, 50, 180, 0, 0, 2, 0, 0, 2);
            Check.same("LINK before", x.word(57), link);
            x = returnBy(true, link);
            Check.registers("open: breach", x, 6, 65408, 82, 60, 170, 0, 0, 2, 0, 0, 2);
            Check.same("LINK before", x.word(177), link);
        }
        Check.registers("65520 closed: breach", returnBy(false, 65520), 6, 65409, 82, 50, 180, 0, 0, 2, 0, 0, 2);
        int[] neverActive = {65520, 65521, 65535};
        for (int link : neverActive) {
            TwoWorlds x = Asm.closed(Asm.GATE);
            x.settings(true, 15, 0, 20);
            Asm.put(x, 83, Asm.GATE, Asm.RETURN);
            x.interrupt(3);
            x.run(1);
            x.set(6, link);
            x.run(1);
            Check.registers("no END", x, 6, 65408 + 49, 82, 40, 180, 0, 0, 2, 0, 0, 2);
        }
    }

    private static void outCallReturns() {
        TwoWorlds x = Asm.closed(Asm.set(0, 120), Asm.outCall(0), Asm.set(1, 7));
        Asm.put(x, 120, Asm.set(2, 8), Asm.RETURN);
        Check.same("there and back", x.run(4), 4);
        Check.registers("back", x, 0, 120, 0, 8, 0, 0, 0, 65520, 22, 60, 180, 0, 0, 0, 0, 0, 0);
        x = Asm.open(Asm.RETURN);
        x.set(6, 65520);
        Asm.put(x, 255, 4096, 256 * 3 + 44);
        x.begin(100, true, 65535, 180);
        x.run(1);
        Check.registers("by whatever stands there", x, 6, 65520, 44, 1, 180, 0, 0, 0, 0, 0, 0);
        x = Asm.open(Asm.RETURN);
        x.set(6, 65520);
        Asm.put(x, 60, 0, 4096);
        x.run(1);
        Check.registers("the first has to be 4096", x, 6, 65408, 82, 60, 170, 0, 0, 2, 0, 0, 2);
    }

    /** A machine in the handler of 3, whose RETURN is next; R0 .. R6 and ZERO were 1 .. 7 and 1 before. */
    private static TwoWorlds inHandler(boolean openBefore, boolean openHandler) {
        TwoWorlds x = openBefore ? Asm.open(Asm.sub(0, 0, 0)) : Asm.closed(Asm.sub(0, 0, 0));
        x.settings(true, openHandler ? 0 : 15, 0, 20);
        x.run(1);
        Asm.setAll(x, 1, 2, 3, 4, 5, 6, 7);
        Asm.put(x, openHandler ? 113 : 83, Asm.sub(0, 1, 6), Asm.RETURN);
        x.interrupt(3);
        x.run(1);
        Check.same("active", x.register(Asm.ACTIVE), 3);
        Check.same("ZERO of the handler", x.register(Asm.ZERO), 0);
        return x;
    }

    private static void ends() {
        for (int way = 0; way < 4; way++) {
            boolean openBefore = (way & 1) != 0;
            TwoWorlds x = inHandler(openBefore, (way & 2) != 0);
            Check.same("a step", x.run(1), 1);
            Check.registers("END " + way, x, 0, 1, 2, 3, 4, 5, 6, 7,
                openBefore ? 101 : 21, 60, 180, 1, openBefore ? 1 : 0, 0, 0, 0, 3);
        }
        TwoWorlds x = inHandler(false, false);
        Asm.put(x, 50, 1005, 65535, 15, 14, 13, 12, 11, 20000, 2, 256 + 90);
        x.set(6, 65408 + 16 * 5 + 8 + 4 + 2 + 1);
        x.run(1);
        Check.registers("END by what stands there", x, 0, 11, 12, 13, 14, 15, 65535, 20000,
            90, 60, 180, 1, 0, 5, 0, 0, 3);
        x = inHandler(false, true);
        Asm.put(x, 170, 1006, 26, 25, 24, 23, 22, 21, 40000, 0, 256 + 91);
        x.begin(20, false, 60, 170);
        x.interrupt(3);
        x.run(1);
        x.set(6, 65519 - 1);
        x.run(1);
        Check.registers("END of open code in the open world", x, 0, 21, 22, 23, 24, 25, 26, 40000,
            91, 50, 180, 0, 1, 6, 0, 0, 3);
    }

    private static void endBreaches() {
        TwoWorlds x = inHandler(false, false);
        x.poke(50, 1003);
        x.run(1);
        Check.registers("wrong mark", x, 0, 65536 + 2 - 65409, 2, 3, 4, 5, 6, 65408 + 49, 82, 40, 180, 0, 0, 2, 0, 0, 2);
        Check.words("frame of 2", x, 40, 1003, 6, 5, 4, 3, 2, 129, 65409, 0, 84);
        x = inHandler(false, false);
        x.set(6, 65409 + 16);
        x.run(1);
        Check.same("the mark is not that of LINK", x.register(Asm.LAST), 2);
        for (int stack = 183; stack <= 191; stack++) {
            x = Asm.open(Asm.GATE);
            Asm.put(x, 113, Asm.GATE, Asm.RETURN);
            x.begin(100, true, 60, stack);
            x.interrupt(3);
            x.run(1);
            x.region(1, 96, stack - 2, 1);
            x.run(1);
            Check.registers("a word that may not be read", x, 6, 65408 + 48, 82, 60, stack - 20, 0, 0, 2, 0, 0, 2);
            Check.same("1000 + 3", x.word(stack - 20), 1003);
        }
    }

    /** Even on a frame with the right mark only 65408 .. 65519 ends, and only what is active. */
    private static void framesWithoutAnEnd() {
        int[] links = {65407, 65408, 65409, 65519, 65520, 65521, 65535};
        for (int link : links) {
            for (int way = 0; way < 4; way++) {
                boolean active = (way & 1) != 0;
                boolean open = (way & 2) != 0;
                TwoWorlds x = returnOnFrames(link, active, open);
                boolean end = active && link >= 65408 && link <= 65519;
                boolean out = link == 65407 && !open;
                String what = "LINK " + link + " in case " + way;
                Check.same(what + ": taken last", x.register(Asm.LAST), end || out ? active ? 3 : 0 : 2);
                Check.same(what + ": PC", x.register(Asm.PC), end ? 120 : out ? 65407 % 256 : 82);
            }
        }
    }

    /** After a RETURN with a frame for just this LINK on both stacks. */
    private static TwoWorlds returnOnFrames(int link, boolean active, boolean open) {
        TwoWorlds x = open ? Asm.open(Asm.GATE, Asm.RETURN) : Asm.closed(Asm.GATE, Asm.RETURN);
        x.settings(true, open ? 0 : 15, 0, 20);
        Asm.put(x, open ? 113 : 83, Asm.GATE, Asm.RETURN);
        if (active) {
            x.interrupt(3);
        }
        x.run(1);
        int mark = 1000 + (((link - 65408) >> 4) & 7);
        for (int k = Asm.CLOSED_STACK; k <= Asm.OPEN_STACK; k++) {
            Asm.put(x, x.register(k), mark, 0, 0, 0, 0, 0, 0, 0, 0, 120);
        }
        x.set(6, link);
        Check.same("a step", x.run(1), 1);
        return x;
    }
}
