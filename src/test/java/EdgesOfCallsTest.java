/** The edges that promises 1 to 12 name, a method for each sentence, which stands above it. */
public final class EdgesOfCallsTest {
    private static final int LEAST = Integer.MIN_VALUE;
    private static final int GREATEST = Integer.MAX_VALUE;

    public static void main(String[] args) {
        lastOfTheCalls();
        newMemory();
        newRegisters();
        newStacks();
        newSettings();
        pokeAddress();
        pokeValue();
        pokeAnswer();
        fillAddress();
        fillOrder();
        fillRefused();
        regionNumber();
        regionKind();
        regionFirstAndLast();
        regionOfNoWord();
        regionRefused();
        settingsClosed();
        settingsBases();
        settingsRefused();
        beginPc();
        beginStacks();
        beginFromStill();
        beginFromLocked();
        beginNothingActiveOrPending();
        beginWhatStays();
        beginRefused();
        setNumber();
        setValue();
        setRefused();
        interruptNumber();
        interruptRefused();
        runNumber();
        runRefused();
        runStill();
        runLocked();
        runStopCounts();
        runLockCounts();
        wordAddress();
        registerNumber();
        registerOfState();
        registerOfPending();
        registerOfTheLast();
        kindAddress();
        Check.end();
    }

    /** "An object is used for at most 512 calls after it has been made." */
    private static void lastOfTheCalls() {
        TwoWorlds x = new TwoWorlds();
        x.poke(255, Asm.add(0, 0, 1));
        x.set(1, 1);
        int rounds = 169;
        for (int i = 0; i < rounds; i++) {
            Check.yes("begin " + i, x.begin(255, false, i, i));
            Check.same("run " + i, x.run(1), 1);
            Check.yes("interrupt " + i, x.interrupt(3 + i % 4));
        }
        Check.same("call 510", x.register(0), rounds);
        Check.same("call 511", x.register(Asm.PENDING), 8);
        Check.same("call 512", x.poke(255, 0), Asm.add(0, 0, 1));
    }

    /** "All words are 0, no regions." */
    private static void newMemory() {
        TwoWorlds x = new TwoWorlds();
        TwoWorlds y = new TwoWorlds();
        for (int at = 0; at < 256; at++) {
            Check.same("new word " + at, x.word(at), 0);
            Check.same("new kind " + at, y.kind(at), 0);
        }
    }

    /** "All registers 0, the stack pointers 256, the world is closed." */
    private static void newRegisters() {
        Check.registers("new", new TwoWorlds(), 0, 0, 0, 0, 0, 0, 0, 0, 0, 256, 256, 0, 0, 0, 0, 0, 0);
    }

    /** "The stack pointers 256": the first word that is pushed is the last one of memory. */
    private static void newStacks() {
        TwoWorlds x = new TwoWorlds();
        Asm.put(x, 0, Asm.set(0, 77), Asm.push(0));
        x.run(2);
        Check.registers("one is pushed", x, Asm.CLOSED_STACK, 255, 256);
        Check.words("at 255", x, 254, 0, 77);
        x = new TwoWorlds();
        x.poke(0, Asm.pop(2));
        x.run(1);
        Check.same("popped from 256, that is 0", x.register(2), Asm.pop(2));
        Check.registers("one is popped", x, Asm.CLOSED_STACK, 257, 256);
    }

    /** "Breaches are enabled, exceptions 3 .. 6 are open, the bases 0." */
    private static void newSettings() {
        for (int e = 3; e <= 6; e++) {
            TwoWorlds x = new TwoWorlds();
            x.region(0, 100, 110, 1);
            x.poke(e, 100);
            x.interrupt(e);
            x.run(1);
            Check.registers("exception " + e + " of a new object", x, Asm.PC, 101, 246, 256, 0, 1, e, 0, 0, e);
        }
        TwoWorlds x = new TwoWorlds();
        x.region(0, 100, 110, 1);
        x.poke(1, 41);
        x.poke(2, 42);
        Asm.put(x, 0, Asm.go(100));
        x.run(2);
        Check.registers("breach of a new object", x, Asm.PC, 42, 246, 256, 0, 0, 2, 0, 0, 2);
        x = new TwoWorlds();
        x.poke(1, 41);
        x.poke(0, Asm.set(7, 0));
        x.run(1);
        Check.registers("unknown of a new object", x, Asm.PC, 41, 246, 256, 0, 0, 1, 0, 0, 1);
    }

    /** "The word at an address (mod 256) becomes .." */
    private static void pokeAddress() {
        int[][] pairs = {{0, 0}, {255, 255}, {256, 0}, {257, 1}, {511, 255}, {-1, 255}, {-255, 1}, {-256, 0},
            {-257, 255}, {65536 + 9, 9}, {LEAST, 0}, {LEAST + 8, 8}, {GREATEST, 255}, {GREATEST - 1, 254}};
        for (int[] pair : pairs) {
            TwoWorlds x = new TwoWorlds();
            x.poke(pair[0], 4711);
            for (int at = 0; at < 256; at++) {
                Check.same("word " + at + " after poke(" + pair[0] + ")", x.word(at), at == pair[1] ? 4711 : 0);
            }
        }
    }

    /** ".. becomes v mod 65536" */
    private static void pokeValue() {
        int[][] pairs = {{0, 0}, {1, 1}, {32767, 32767}, {32768, 32768}, {65535, 65535}, {65536, 0}, {65537, 1},
            {131071, 65535}, {-1, 65535}, {-65535, 1}, {-65536, 0}, {LEAST, 0}, {LEAST + 1, 1}, {GREATEST, 65535}};
        for (int[] pair : pairs) {
            TwoWorlds x = new TwoWorlds();
            x.poke(9, 123);
            x.poke(9, pair[0]);
            Check.same("word after poke of " + pair[0], x.word(9), pair[1]);
        }
    }

    /** ".. : what it was." */
    private static void pokeAnswer() {
        TwoWorlds x = new TwoWorlds();
        Check.same("0 at first", x.poke(255, -1), 0);
        Check.same("not the number that was given", x.poke(-1, 65536), 65535);
        Check.same("nor what it becomes", x.poke(511, 5), 0);
        Check.same("the last", x.poke(255, 6), 5);
    }

    /** "Four words from an address (0 .. 252) on .. False when there are not these." */
    private static void fillAddress() {
        int[] fine = {0, 1, 251, 252};
        for (int address : fine) {
            Check.yes("fill(" + address + ")", new TwoWorlds().fill(address, 1L));
        }
        int[] wrong = {-1, -2, -4, -256, 253, 254, 255, 256, 257, LEAST, GREATEST, GREATEST - 3};
        for (int address : wrong) {
            Check.no("fill(" + address + ")", new TwoWorlds().fill(address, 1L));
        }
    }

    /** "The lowest 16 bits of the number first." */
    private static void fillOrder() {
        TwoWorlds x = new TwoWorlds();
        x.fill(0, 0x0004_0003_0002_0001L);
        Check.words("the first four", x, 0, 1, 2, 3, 4, 0);
        Check.same("none before", x.word(255), 0);
        x.fill(252, 0x8000_FFFF_0000_8001L);
        Check.words("the last four", x, 251, 0, 0x8001, 0, 0xFFFF, 0x8000, 1);
        x = new TwoWorlds();
        x.fill(100, -1L);
        Check.words("-1", x, 99, 0, 65535, 65535, 65535, 65535, 0);
        x.fill(100, Long.MIN_VALUE);
        Check.words("the least", x, 99, 0, 0, 0, 0, 32768, 0);
        x.fill(100, Long.MAX_VALUE);
        Check.words("the greatest", x, 99, 0, 65535, 65535, 65535, 32767, 0);
        x.fill(100, 0L);
        Check.words("0", x, 99, 0, 0, 0, 0, 0, 0);
    }

    /** A fill that is refused changes no word. */
    private static void fillRefused() {
        int[] wrong = {-3, 253, 256};
        for (int address : wrong) {
            TwoWorlds x = new TwoWorlds();
            x.fill(address, -1L);
            for (int at = 0; at < 256; at++) {
                Check.same("word " + at + " after fill(" + address + ")", x.word(at), 0);
            }
        }
    }

    /** "REGIONS 0 .. 3": "False when there is none such" */
    private static void regionNumber() {
        for (int k = 0; k <= 3; k++) {
            TwoWorlds x = new TwoWorlds();
            Check.yes("region " + k, x.region(k, 5, 5, 1));
            Check.same("region " + k + " has 5", x.kind(5), 1);
        }
        int[] wrong = {-1, 4, 5, 256, LEAST, GREATEST};
        for (int k : wrong) {
            Check.no("region " + k, new TwoWorlds().region(k, 5, 5, 1));
        }
    }

    /** ".. kind is not 0 .. 2" */
    private static void regionKind() {
        for (int kind = 0; kind <= 2; kind++) {
            TwoWorlds x = new TwoWorlds();
            Check.yes("kind " + kind, x.region(0, 5, 5, kind));
            Check.same("kind " + kind + " of 5", x.kind(5), kind);
        }
        int[] wrong = {-1, 3, 4, LEAST, GREATEST};
        for (int kind : wrong) {
            Check.no("kind " + kind, new TwoWorlds().region(0, 5, 5, kind));
        }
    }

    /** ".. or first and last are not 0 .. 255." */
    private static void regionFirstAndLast() {
        TwoWorlds x = new TwoWorlds();
        Check.yes("first 0, last 0", x.region(0, 0, 0, 1));
        Check.yes("first 255, last 255", x.region(1, 255, 255, 1));
        Check.same("kind(0)", x.kind(0), 1);
        Check.same("kind(1)", x.kind(1), 0);
        Check.same("kind(254)", x.kind(254), 0);
        Check.same("kind(255)", x.kind(255), 1);
        int[] wrong = {-1, 256, 257, -256, LEAST, GREATEST};
        for (int address : wrong) {
            for (int kind = 0; kind <= 2; kind++) {
                Check.no("first " + address + " of kind " + kind, x.region(2, address, 255, kind));
                Check.no("last " + address + " of kind " + kind, x.region(2, 0, address, kind));
                Check.no("both " + address + " of kind " + kind, x.region(2, address, address, kind));
            }
        }
    }

    /** "None has a word when first is greater than last." */
    private static void regionOfNoWord() {
        int[][] pairs = {{1, 0}, {255, 0}, {255, 254}, {101, 100}};
        for (int[] pair : pairs) {
            TwoWorlds x = new TwoWorlds();
            x.region(1, 0, 255, 2);
            Check.yes("from " + pair[0] + " to " + pair[1], x.region(0, pair[0], pair[1], 1));
            for (int at = 0; at < 256; at++) {
                Check.same("only the other has " + at, x.kind(at), 2);
            }
        }
    }

    /** A region that is refused changes none. */
    private static void regionRefused() {
        int[][] wrong = {{0, -1, 255, 2}, {0, 0, 256, 2}, {0, 0, 255, 3}, {0, 0, 255, -1}, {0, 256, 0, 0},
            {0, 0, -1, 0}, {4, 0, 255, 2}, {-1, 0, 255, 2}};
        for (int[] w : wrong) {
            TwoWorlds x = new TwoWorlds();
            x.region(0, 10, 12, 1);
            x.region(w[0], w[1], w[2], w[3]);
            for (int at = 0; at < 256; at++) {
                Check.same("kind(" + at + ") stays", x.kind(at), at >= 10 && at <= 12 ? 1 : 0);
            }
            x.region(3, 10, 10, 0);
            Check.same("and the region too", x.kind(10), 1);
        }
    }

    /** "False when closed is not 0 .. 15" */
    private static void settingsClosed() {
        for (int closed = 0; closed <= 15; closed++) {
            Check.yes("closed " + closed, new TwoWorlds().settings(true, closed, 0, 0));
        }
        int[] wrong = {-1, 16, 17, 31, LEAST, GREATEST};
        for (int closed : wrong) {
            Check.no("closed " + closed, new TwoWorlds().settings(true, closed, 0, 0));
        }
    }

    /** ".. or a base not 0 .. 31." */
    private static void settingsBases() {
        int[] fine = {0, 1, 30, 31};
        for (int base : fine) {
            TwoWorlds x = Asm.closed(Asm.GATE);
            Check.yes("closed base " + base, x.settings(true, 1, base, 3));
            x.poke(8 * base + 3, 90);
            x.interrupt(3);
            x.run(1);
            Check.registers("closed base " + base, x, Asm.PC, 91, 50, 180, 0, 0, 3, 0, 0, 3);
            x = Asm.closed(Asm.GATE);
            Check.yes("open base " + base, x.settings(true, 7, 3, base));
            x.poke(8 * base + 6, 120);
            x.interrupt(6);
            x.run(1);
            Check.registers("open base " + base, x, Asm.PC, 121, 50, 180, 0, 1, 6, 0, 0, 6);
        }
        int[] wrong = {-1, 32, 33, 256, LEAST, GREATEST};
        for (int base : wrong) {
            Check.no("closed base " + base, new TwoWorlds().settings(true, 0, base, 0));
            Check.no("open base " + base, new TwoWorlds().settings(true, 0, 0, base));
        }
    }

    /** Settings that are refused change none. */
    private static void settingsRefused() {
        int[][] wrong = {{16, 5, 6}, {-1, 5, 6}, {15, 32, 6}, {15, -1, 6}, {15, 5, 32}, {15, 5, -1}};
        for (int[] w : wrong) {
            TwoWorlds x = Asm.open(Asm.load(0, 0, 0));
            x.settings(false, w[0], w[1], w[2]);
            x.run(1);
            Check.registers("enabled and the closed base stay", x, Asm.PC, 82, 60, 170, 0, 0, 2, 0, 0, 2);
            x = Asm.closed(Asm.GATE);
            x.settings(false, w[0], w[1], w[2]);
            x.interrupt(6);
            x.run(1);
            Check.registers("closed and the open base stay", x, Asm.PC, 117, 50, 180, 0, 1, 6, 0, 0, 6);
        }
    }

    /** "False when pc is not 0 .. 255." */
    private static void beginPc() {
        int[] fine = {0, 1, 254, 255};
        for (int pc : fine) {
            TwoWorlds x = new TwoWorlds();
            Check.yes("begin(" + pc + ")", x.begin(pc, true, 3, 4));
            Check.registers("begin(" + pc + ")", x, Asm.PC, pc, 3, 4, 0, 1);
        }
        int[] wrong = {-1, 256, 257, -256, LEAST, GREATEST};
        for (int pc : wrong) {
            Check.no("begin(" + pc + ")", new TwoWorlds().begin(pc, false, 3, 4));
        }
    }

    /** "Both stack pointers (mod 65536) are these" */
    private static void beginStacks() {
        int[][] pairs = {{0, 0}, {255, 255}, {256, 256}, {65535, 65535}, {65536, 0}, {65537, 1}, {-1, 65535},
            {-65536, 0}, {LEAST, 0}, {GREATEST, 65535}};
        for (int[] pair : pairs) {
            TwoWorlds x = new TwoWorlds();
            x.begin(9, false, pair[0], 7);
            Check.registers("closed stack " + pair[0], x, Asm.CLOSED_STACK, pair[1], 7);
            x.begin(9, true, 7, pair[0]);
            Check.registers("open stack " + pair[0], x, Asm.CLOSED_STACK, 7, pair[1]);
        }
    }

    /** "The machine is at this PC in a world, neither still .." */
    private static void beginFromStill() {
        TwoWorlds x = Asm.closed(Asm.STOP, Asm.set(3, 5));
        x.run(1);
        Check.same("still", x.register(Asm.STATE), 1);
        x.begin(21, false, 60, 180);
        Check.same("not still", x.register(Asm.STATE), 0);
        Check.same("it goes", x.run(1), 1);
        Check.same("R3", x.register(3), 5);
    }

    /** ".. nor locked .." */
    private static void beginFromLocked() {
        TwoWorlds x = Asm.open(Asm.load(0, 0, 0), Asm.set(3, 5));
        x.begin(100, true, 60, 96);
        x.run(1);
        Check.same("locked", x.register(Asm.STATE), 2);
        x.begin(101, true, 60, 180);
        Check.same("not locked", x.register(Asm.STATE), 0);
        Check.same("it goes", x.run(1), 1);
        Check.same("R3", x.register(3), 5);
    }

    /** ".. nothing ACTIVE or pending" */
    private static void beginNothingActiveOrPending() {
        TwoWorlds x = Asm.closed(Asm.set(7, 0), Asm.GATE);
        x.run(1);
        for (int e = 3; e <= 6; e++) {
            x.interrupt(e);
        }
        Check.registers("active and pending", x, Asm.ACTIVE, 1, 0, 120);
        x.begin(21, false, 60, 180);
        Check.registers("nothing", x, Asm.ACTIVE, 0, 0, 0);
        x.run(1);
        Check.registers("and none is taken", x, Asm.PC, 22, 60, 180, 0, 0, 0, 0, 0, 1);
    }

    /** "R0 .. R6, ZERO and the exception taken last stay" */
    private static void beginWhatStays() {
        TwoWorlds x = Asm.closed(Asm.sub(0, 0, 0), Asm.set(7, 0));
        x.run(2);
        Asm.setAll(x, 1, 2, 3, 4, 5, 6, 65535);
        x.begin(0, true, 8, 9);
        Check.registers("what stays", x, 0, 1, 2, 3, 4, 5, 6, 65535, 0, 8, 9, 1, 1, 0, 0, 0, 1);
        x.begin(255, false, 9, 8);
        Check.registers("again", x, 0, 1, 2, 3, 4, 5, 6, 65535, 255, 9, 8, 1, 0, 0, 0, 0, 1);
    }

    /** A begin that is refused changes nothing. */
    private static void beginRefused() {
        int[] wrong = {-1, 256};
        for (int pc : wrong) {
            TwoWorlds x = Asm.closed(Asm.set(7, 0));
            x.poke(81, Asm.STOP);
            x.run(1);
            x.interrupt(5);
            x.begin(pc, true, 8, 9);
            Check.registers("active and pending stay", x, Asm.PC, 81, 50, 180, 0, 0, 1, 0, 32, 1);
            x.run(1);
            x.begin(pc, true, 8, 9);
            Check.registers("still stays", x, Asm.PC, 82, 50, 180, 0, 0, 1, 1, 32, 1);
        }
    }

    /** "Register r (0 .. 6) .. False when there is none such." */
    private static void setNumber() {
        for (int r = 0; r <= 6; r++) {
            TwoWorlds x = new TwoWorlds();
            Check.yes("set(" + r + ")", x.set(r, 9));
            for (int k = 0; k <= 6; k++) {
                Check.same("register " + k + " after set(" + r + ")", x.register(k), k == r ? 9 : 0);
            }
        }
        int[] wrong = {-1, 7, 8, 9, 15, 16, LEAST, GREATEST};
        for (int r : wrong) {
            Check.no("set(" + r + ")", new TwoWorlds().set(r, 9));
        }
    }

    /** ".. becomes v mod 65536." */
    private static void setValue() {
        int[][] pairs = {{0, 0}, {32768, 32768}, {65535, 65535}, {65536, 0}, {65537, 1}, {-1, 65535}, {-65536, 0},
            {LEAST, 0}, {GREATEST, 65535}};
        for (int[] pair : pairs) {
            TwoWorlds x = new TwoWorlds();
            x.set(0, pair[0]);
            x.set(6, pair[0]);
            Check.same("R0 from " + pair[0], x.register(0), pair[1]);
            Check.same("LINK from " + pair[0], x.register(6), pair[1]);
        }
    }

    /** A set that is refused changes no register. */
    private static void setRefused() {
        TwoWorlds x = Asm.closed(Asm.GATE);
        for (int r = -2; r <= 20; r++) {
            if (r < 0 || r > 6) {
                x.set(r, 3);
            }
        }
        Check.registers("all stay", x, 0, 0, 0, 0, 0, 0, 0, 0, 20, 60, 180, 0, 0, 0, 0, 0, 0);
    }

    /** "Exception e (3 .. 6) is pending. False when it is not so." */
    private static void interruptNumber() {
        for (int e = 3; e <= 6; e++) {
            TwoWorlds x = new TwoWorlds();
            Check.yes("interrupt(" + e + ")", x.interrupt(e));
            Check.same("pending", x.register(Asm.PENDING), 1 << e);
            Check.yes("interrupt(" + e + ") that is pending", x.interrupt(e));
            Check.same("is so once", x.register(Asm.PENDING), 1 << e);
        }
        int[] wrong = {-1, 0, 1, 2, 7, 8, 35, 38, -28, LEAST, GREATEST};
        for (int e : wrong) {
            Check.no("interrupt(" + e + ")", new TwoWorlds().interrupt(e));
        }
    }

    /** An interrupt that is refused changes nothing. */
    private static void interruptRefused() {
        int[] wrong = {-1, 0, 1, 2, 7, 8, 35, 38, -28, LEAST, GREATEST};
        TwoWorlds x = Asm.closed(Asm.GATE);
        x.interrupt(4);
        for (int e : wrong) {
            x.interrupt(e);
        }
        Check.registers("as it was", x, Asm.PC, 20, 60, 180, 0, 0, 0, 0, 16, 0);
    }

    /** "At most n steps (0 .. 200): how many were made .. BAD (-1) when n is not so." */
    private static void runNumber() {
        int[] fine = {0, 1, 2, 199, 200};
        for (int n : fine) {
            TwoWorlds x = Asm.closed(Asm.add(0, 0, 1), Asm.go(20));
            x.set(1, 1);
            Check.same("run(" + n + ")", x.run(n), n);
            Check.same("steps of run(" + n + ")", 2 * x.register(0) - (x.register(Asm.PC) == 21 ? 1 : 0), n);
        }
        int[] wrong = {-1, -200, 201, 202, 256, LEAST, GREATEST};
        for (int n : wrong) {
            Check.same("run(" + n + ")", Asm.closed(Asm.go(20)).run(n), -1);
        }
    }

    /** A run that is refused makes no step. */
    private static void runRefused() {
        int[] wrong = {-1, 201, LEAST, GREATEST};
        for (int n : wrong) {
            TwoWorlds x = Asm.closed(Asm.set(0, 1));
            x.interrupt(3);
            x.run(n);
            Check.registers("as it was", x, 0, 0, 0, 0, 0, 0, 0, 0, 20, 60, 180, 0, 0, 0, 0, 8, 0);
        }
    }

    /** "None, if it stands still .." */
    private static void runStill() {
        TwoWorlds x = Asm.closed(Asm.STOP, Asm.set(0, 1));
        x.run(1);
        x.interrupt(3);
        Check.same("run(200) when still", x.run(200), 0);
        Check.same("run(0) when still", x.run(0), 0);
        Check.same("run(201) when still", x.run(201), -1);
        Check.registers("no pending one is taken", x, 0, 0, 0, 0, 0, 0, 0, 0, 21, 60, 180, 0, 0, 0, 1, 8, 0);
    }

    /** ".. or is locked" */
    private static void runLocked() {
        TwoWorlds x = Asm.open(Asm.load(0, 0, 0));
        x.begin(100, true, 60, 96);
        x.run(1);
        x.interrupt(3);
        Check.same("run(200) when locked", x.run(200), 0);
        Check.same("run(0) when locked", x.run(0), 0);
        Check.same("run(-1) when locked", x.run(-1), -1);
        Check.registers("no pending one is taken", x, 0, 0, 0, 0, 0, 0, 0, 0, 100, 60, 96, 0, 1, 0, 2, 8, 0);
    }

    /** "A step in which the machine .. stops, counts, and is the last." */
    private static void runStopCounts() {
        for (int steps = 1; steps <= 3; steps++) {
            TwoWorlds x = Asm.closed(Asm.GATE, Asm.GATE, Asm.STOP, Asm.set(0, 1));
            x.begin(23 - steps, false, 60, 180);
            Check.same("run(200) to STOP", x.run(200), steps);
            Check.registers("still behind it", x, 0, 0, 0, 0, 0, 0, 0, 0, 23, 60, 180, 0, 0, 0, 1, 0, 0);
        }
    }

    /** "A step in which the machine becomes locked .. counts, and is the last." */
    private static void runLockCounts() {
        for (int steps = 1; steps <= 3; steps++) {
            TwoWorlds x = Asm.open(Asm.GATE, Asm.GATE, Asm.load(0, 0, 0), Asm.set(0, 1));
            x.begin(103 - steps, true, 60, 96);
            Check.same("run(200) to the lock", x.run(200), steps);
            Check.registers("locked at it", x, 0, 0, 0, 0, 0, 0, 0, 0, 102, 60, 96, 0, 1, 0, 2, 0, 0);
        }
    }

    /** "The word at an address (mod 256)." */
    private static void wordAddress() {
        TwoWorlds x = new TwoWorlds();
        x.poke(0, 1000);
        x.poke(1, 1001);
        x.poke(254, 1254);
        x.poke(255, 1255);
        int[][] pairs = {{0, 1000}, {1, 1001}, {255, 1255}, {256, 1000}, {257, 1001}, {511, 1255}, {-1, 1255},
            {-2, 1254}, {-255, 1001}, {-256, 1000}, {LEAST, 1000}, {GREATEST, 1255}};
        for (int[] pair : pairs) {
            Check.same("word(" + pair[0] + ")", x.word(pair[0]), pair[1]);
        }
    }

    /** "-1 for others." */
    private static void registerNumber() {
        TwoWorlds x = Asm.closed(Asm.GATE);
        int[] wrong = {-1, -2, 16, 17, 32, 256, LEAST, GREATEST};
        for (int k : wrong) {
            Check.same("register(" + k + ")", x.register(k), -1);
        }
        Check.same("register(15)", x.register(15), 0);
    }

    /** "13 1 if it stands still, 2 if it is locked" */
    private static void registerOfState() {
        TwoWorlds x = Asm.closed(Asm.STOP);
        Check.same("neither", x.register(13), 0);
        x.run(1);
        Check.same("still", x.register(13), 1);
        x.poke(100, Asm.set(7, 0));
        x.begin(100, true, 60, 100);
        x.run(1);
        Check.same("locked", x.register(13), 2);
    }

    /** "14 the pending ones (bit e)" */
    private static void registerOfPending() {
        TwoWorlds x = new TwoWorlds();
        Check.same("none", x.register(14), 0);
        int due = 0;
        for (int e = 6; e >= 3; e--) {
            x.interrupt(e);
            due += 1 << e;
            Check.same("down to " + e, x.register(14), due);
        }
    }

    /** "15 the exception taken last (0: none yet)" */
    private static void registerOfTheLast() {
        TwoWorlds x = Asm.closed(Asm.GATE, Asm.set(7, 0));
        x.settings(true, 15, 0, 20);
        x.poke(86, Asm.RETURN);
        x.poke(81, Asm.RETURN);
        Check.same("none yet", x.register(15), 0);
        x.interrupt(6);
        x.run(1);
        Check.registers("6, though it has ended", x, 12, 0, 0, 0, 6);
        x.run(2);
        Check.registers("then 1", x, 12, 1, 0, 0, 1);
        x.run(1);
        Check.registers("still 1", x, 12, 0, 0, 0, 1);
    }

    /** "What a word is: 0 CLOSED, 1 OPEN, 2 for GATES (address mod 256)." */
    private static void kindAddress() {
        TwoWorlds x = new TwoWorlds();
        x.region(0, 0, 0, 1);
        x.region(1, 255, 255, 2);
        int[][] pairs = {{0, 1}, {1, 0}, {254, 0}, {255, 2}, {256, 1}, {257, 0}, {511, 2}, {-1, 2}, {-2, 0}, {-256, 1},
            {-257, 2}, {LEAST, 1}, {GREATEST, 2}};
        for (int[] pair : pairs) {
            Check.same("kind(" + pair[0] + ")", x.kind(pair[0]), pair[1]);
        }
    }
}
