/** Promise 9: access, gates, and what a fault takes back. */
public final class AccessTest {
    public static void main(String[] args) {
        fetchClosed();
        fetchOpen();
        gates();
        openReadsAndWrites();
        closedReadsAndWrites();
        faultsTakeBack();
        faultsWhileActive();
        Check.end();
    }

    private static TwoWorlds stepAt(int pc, boolean open, int w) {
        TwoWorlds x = Asm.machine();
        x.poke(pc, w);
        x.begin(pc, open, 60, 180);
        Check.same("a step at " + pc, x.run(1), 1);
        return x;
    }

    private static void fetchClosed() {
        Check.registers("closed word", stepAt(30, false, Asm.set(0, 1)), 7, 31, 60, 180, 0, 0, 0, 0, 0, 0);
        Check.registers("gates word", stepAt(64, false, Asm.set(0, 1)), 7, 65, 60, 180, 0, 0, 0, 0, 0, 0);
        Check.registers("GATE at one", stepAt(64, false, Asm.GATE), 6, 0, 65, 60, 180, 0, 0, 0, 0, 0, 0);
        TwoWorlds x = stepAt(96, false, Asm.set(0, 1));
        Check.registers("open word", x, 0, 0, 0, 0, 0, 0, 0, 65409, 82, 50, 180, 0, 0, 2, 0, 0, 2);
        Check.words("frame", x, 50, 1000, 0, 0, 0, 0, 0, 0, 0, 0, 96);
    }

    private static void fetchOpen() {
        Check.registers("open word", stepAt(96, true, Asm.set(0, 1)), 7, 97, 60, 180, 0, 1, 0, 0, 0, 0);
        int[] breaches = {95, 192, 63, 72};
        for (int pc : breaches) {
            TwoWorlds x = stepAt(pc, true, Asm.GATE);
            Check.registers("closed word", x, 6, 65408, 82, 60, 170, 0, 0, 2, 0, 0, 2);
            Check.same("its return", x.word(179), pc);
        }
        Check.registers("gates word, no GATE", stepAt(64, true, Asm.set(0, 1)), 6, 65408, 82, 60, 170, 0, 0, 2, 0, 0, 2);
        Check.registers("gates word, STOP", stepAt(71, true, Asm.STOP), 6, 65408, 82, 60, 170, 0, 0, 2, 0, 0, 2);
    }

    private static void gates() {
        for (int pc = 64; pc <= 71; pc += 7) {
            Check.registers("GATE", stepAt(pc, true, Asm.GATE | 4095), 6, 32768, pc + 1, 60, 180, 0, 0, 0, 0, 0, 0);
        }
        TwoWorlds x = Asm.open(Asm.set(0, 64), Asm.call(0), Asm.set(1, 9));
        Asm.put(x, 64, Asm.GATE, Asm.go(30));
        Asm.put(x, 30, Asm.load(2, 3, 0), Asm.RETURN);
        x.poke(0, 4711);
        Check.same("there and back", x.run(7), 7);
        Check.registers("with what it is given", x, 0, 64, 9, 4711, 0, 0, 0, 32768 + 102, 103, 60, 180, 0, 1, 0, 0, 0, 0);
        x = Asm.machine();
        Asm.put(x, 64, Asm.GATE);
        x.set(6, 65535);
        x.begin(64, true, 60, 180);
        x.run(1);
        Check.same("bit 15 that is set stays", x.register(6), 65535);
        x = Asm.machine();
        x.region(2, 64, 64, 2);
        Asm.put(x, 64, Asm.GATE);
        x.begin(64, true, 60, 180);
        x.run(1);
        Check.same("a word of two regions is no gate", x.register(Asm.LAST), 2);
    }

    private static void openReadsAndWrites() {
        int[] breaches = {0, 64, 95, 192, 255};
        for (int at : breaches) {
            isBreach("LOAD", at, Asm.load(1, 0, 0));
            isBreach("STORE", at, Asm.store(1, 0, 0));
            isBreach("LOAD n", at - 63, Asm.load(1, 0, 63));
            isBreach("STORE n", at - 63, Asm.store(1, 0, 63));
        }
        int[] fine = {96, 191, 256 + 96, 65280 + 191};
        for (int at : fine) {
            TwoWorlds x = Asm.open(Asm.load(1, 0, 0), Asm.store(2, 0, 0));
            Asm.setAll(x, at, 0, 4660);
            x.poke(at, 99);
            x.run(2);
            Check.same("read at " + at, x.register(1), 99);
            Check.same("written at " + at, x.word(at), 4660);
            Check.same("no fault", x.register(Asm.LAST), 0);
        }
        TwoWorlds x = Asm.open(Asm.pop(1));
        x.begin(100, true, 60, 192);
        x.run(1);
        Check.registers("POP of a closed word", x, 1, 0, 0, 0, 0, 0, 65408, 82, 60, 182, 0, 0, 2, 0, 0, 2);
        x = Asm.open(Asm.push(1));
        x.begin(100, true, 60, 200);
        x.set(1, 5);
        x.run(1);
        Check.registers("PUSH to a closed word", x, 7, 100, 60, 200, 0, 1, 0, 2, 0, 0);
        Check.same("is not written, the taking neither", x.word(199), 0);
    }

    private static void isBreach(String what, int r0, int w) {
        TwoWorlds x = Asm.open(w);
        Asm.setAll(x, r0, 4321);
        int at = r0 + (w & 63);
        int old = x.word(at);
        x.run(1);
        Check.registers(what + " at " + at, x, 0, r0 & 65535, 4321, 0, 0, 0, 0, 65408, 82, 60, 170, 0, 0, 2, 0, 0, 2);
        Check.same(what + " leaves the word at " + at, x.word(at), old);
    }

    private static void closedReadsAndWrites() {
        int[] all = {0, 64, 95, 96, 191, 192, 255};
        for (int at : all) {
            TwoWorlds x = Asm.closed(Asm.load(1, 0, 0), Asm.store(2, 0, 0), Asm.pop(3), Asm.push(4));
            Asm.setAll(x, at, 0, 4660, 0, 22136);
            x.poke(at, 99);
            x.begin(20, false, at, 180);
            x.run(3);
            Check.registers("closed reads at " + at, x, 0, at, 99, 4660, 4660, 22136, 0, 0, 23, at + 1);
            x.run(1);
            Check.same("closed push to " + at, x.word(at), 22136);
            Check.same("no fault", x.register(Asm.LAST), 0);
        }
    }

    private static void faultsTakeBack() {
        TwoWorlds x = Asm.open(Asm.RETURN);
        Asm.setAll(x, 1, 2, 3, 4, 5, 6, 65520);
        x.poke(60, 4095);
        x.run(1);
        Check.registers("RETURN to no OUT CALL", x, 0, 1, 2, 3, 4, 5, 6, 65408, 82, 60, 170, 0, 0, 2, 0, 0, 2);
        Check.words("in the world that it was in", x, 170, 1000, 6, 5, 4, 3, 2, 1, 65520, 0, 100);
        x = Asm.closed(Asm.sub(0, 0, 0), Asm.set(7, 0));
        x.run(2);
        Check.registers("ZERO stays in a taking by the closed world", x, 10, 1, 0, 1);
        Check.words("and is pushed", x, 58, 1, 21);
    }

    /** A machine after an instruction in the closed handler of an exception 3 .. 6. */
    private static TwoWorlds stepInHandler(int e, int w, boolean enabled) {
        TwoWorlds x = Asm.closed(Asm.raise(e - 3), Asm.GATE);
        x.settings(enabled, 15, 0, 20);
        Asm.put(x, 80 + e, Asm.GATE, w);
        x.run(2);
        Check.same("active", x.register(Asm.ACTIVE), e);
        Check.same("a step", x.run(1), 1);
        return x;
    }

    private static void faultsWhileActive() {
        int unknown = Asm.set(7, 0);
        TwoWorlds x = Asm.closed(unknown);
        x.poke(81, Asm.go(100));
        Check.same("breach while 1 is active", x.run(200), 3);
        Check.registers("locks", x, 7, 100, 50, 180, 0, 0, 1, 2, 0, 1);
        x = Asm.closed(unknown);
        x.poke(81, unknown);
        Check.same("unknown while 1 is active", x.run(200), 2);
        Check.registers("locks", x, 7, 81, 50, 180, 0, 0, 1, 2, 0, 1);
        x = Asm.closed(Asm.go(100));
        x.poke(82, Asm.go(100));
        Check.same("breach while 2 is active", x.run(200), 4);
        Check.registers("locks", x, 7, 100, 50, 180, 0, 0, 2, 2, 0, 2);
        x = Asm.closed(Asm.go(100));
        x.poke(82, unknown);
        Check.same("unknown while 2 is active", x.run(3), 3);
        Check.registers("is taken", x, 6, 65408 + 33, 81, 40, 180, 0, 0, 1, 0, 0, 1);
        Check.same("1000 + 2", x.word(40), 1002);
        x = Asm.closed(Asm.go(100));
        x.poke(82, Asm.go(100));
        x.run(2);
        x.settings(false, 0, 0, 20);
        Check.same("breach that is 1 while 2 is active", x.run(2), 2);
        Check.registers("is taken", x, 6, 65408 + 33, 81, 40, 180, 0, 0, 1, 0, 0, 1);
        for (int e = 3; e <= 6; e++) {
            x = stepInHandler(e, unknown, true);
            Check.registers("unknown in " + e, x, 6, 65408 + 16 * e + 1, 81, 40, 180, 0, 0, 1, 0, 0, 1);
            x = stepInHandler(e, unknown, false);
            Check.registers("unknown in " + e, x, 6, 65408 + 16 * e + 1, 81, 40, 180, 0, 0, 1, 0, 0, 1);
            x = stepInHandler(e, Asm.RETURN, true);
            Check.registers("an END in " + e, x, 7, 21, 60, 180, 0, 0, 0, 0, 0, e);
        }
    }
}
