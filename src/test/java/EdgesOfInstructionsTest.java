/** The edges that the terms name for memory, registers, instructions and the stack, a method for each sentence. */
public final class EdgesOfInstructionsTest {
    public static void main(String[] args) {
        wordOfNoRegion();
        wordOfOneRegion();
        wordOfMoreThanOne();
        wordOfAnOffRegion();
        sumsWrap();
        differencesWrap();
        zeroIsSetOrCleared();
        onlySubChangesZero();
        nextWraps();
        nextOfACallWraps();
        nextOfAnOutCallWraps();
        registerSeven();
        registerSix();
        sevenThatIsNotNamed();
        everyRegisterIsItself();
        setOfTheLowestNine();
        loadOffset();
        storeOffset();
        loadByTheRegisterItself();
        goTarget();
        goZeroTarget();
        callTarget();
        outTarget();
        outCallTarget();
        outCallLeavesTheOtherStack();
        raiseOfCModFour();
        raiseBesideOthers();
        stopStandsStill();
        closedOnlyInTheOpenWorld();
        unknownBeforeABreach();
        pushFallsBelowZero();
        popGrowsBeyondTheGreatest();
        stackAddressWraps();
        stackIsThatOfTheWorld();
        Check.end();
    }

    /** "A word is CLOSED if no region that is not off has it .." */
    private static void wordOfNoRegion() {
        TwoWorlds x = new TwoWorlds();
        x.region(0, 10, 20, 1);
        x.region(3, 22, 30, 2);
        Check.same("before both", x.kind(9), 0);
        Check.same("between them", x.kind(21), 0);
        Check.same("behind both", x.kind(31), 0);
    }

    /** ".. otherwise it is OPEN or for GATES." */
    private static void wordOfOneRegion() {
        for (int kind = 1; kind <= 2; kind++) {
            TwoWorlds x = new TwoWorlds();
            x.region(2, 10, 20, kind);
            Check.same("the first", x.kind(10), kind);
            Check.same("the last", x.kind(20), kind);
            x.region(2, 255, 255, kind);
            Check.same("the last of memory", x.kind(255), kind);
            Check.same("where it was", x.kind(10), 0);
        }
    }

    /** ".. or more than one": two, three or four, of whatever kinds. */
    private static void wordOfMoreThanOne() {
        for (int holders = 2; holders <= 4; holders++) {
            for (int kinds = 0; kinds < 16; kinds++) {
                TwoWorlds x = new TwoWorlds();
                for (int k = 0; k < holders; k++) {
                    x.region(k, 10 + k, 20, 1 + (kinds >> k & 1));
                }
                Check.same("only the first has it", x.kind(10), 1 + (kinds & 1));
                Check.same("two have it", x.kind(11), 0);
                Check.same(holders + " have it", x.kind(20), 0);
            }
        }
        TwoWorlds x = new TwoWorlds();
        x.region(1, 10, 20, 2);
        x.region(3, 20, 30, 1);
        Check.same("before the common word", x.kind(19), 2);
        Check.same("the common word", x.kind(20), 0);
        Check.same("behind it", x.kind(21), 1);
    }

    /** "no region that is not off": one that is off neither makes a word open nor closes it. */
    private static void wordOfAnOffRegion() {
        TwoWorlds x = new TwoWorlds();
        x.region(0, 0, 255, 0);
        Check.same("off alone", x.kind(10), 0);
        x.region(1, 10, 10, 2);
        Check.same("off and gates", x.kind(10), 2);
        x.region(2, 10, 10, 1);
        Check.same("off, gates and open", x.kind(10), 0);
        x.region(1, 10, 10, 0);
        Check.same("two off and open", x.kind(10), 1);
    }

    private static TwoWorlds afterOne(int w, int... registers) {
        TwoWorlds x = Asm.closed(w);
        Asm.setAll(x, registers);
        Check.same("a step", x.run(1), 1);
        return x;
    }

    /** "16 bits each, sums .. wrap" */
    private static void sumsWrap() {
        int[][] sums = {{0, 0, 0}, {65534, 1, 65535}, {65535, 1, 0}, {65535, 2, 1}, {65535, 65535, 65534},
            {32768, 32768, 0}, {32767, 1, 32768}};
        for (int[] s : sums) {
            TwoWorlds x = afterOne(Asm.add(2, 0, 1), s[0], s[1], 9);
            Check.registers(s[0] + " + " + s[1], x, 0, s[0], s[1], s[2], 0, 0, 0, 0, 21, 60, 180, 0, 0, 0, 0, 0, 0);
        }
        Check.same("one register for all", afterOne(Asm.add(6, 6, 6), 0, 0, 0, 0, 0, 0, 40000).register(6), 14464);
    }

    /** ".. and differences wrap" */
    private static void differencesWrap() {
        int[][] differences = {{0, 1, 65535}, {0, 65535, 1}, {65535, 0, 65535}, {1, 2, 65535}, {0, 32768, 32768},
            {32767, 32768, 65535}, {2, 1, 1}};
        for (int[] d : differences) {
            TwoWorlds x = afterOne(Asm.sub(2, 0, 1), d[0], d[1], 9);
            Check.registers(d[0] + " - " + d[1], x, 0, d[0], d[1], d[2], 0, 0, 0, 0, 21, 60, 180, 0, 0, 0, 0, 0, 0);
        }
    }

    /** "ZERO is set if that is 0, otherwise cleared." */
    private static void zeroIsSetOrCleared() {
        int[] values = {0, 1, 32768, 65535};
        for (int v : values) {
            TwoWorlds x = Asm.closed(Asm.sub(2, 0, 1), Asm.sub(2, 0, 3), Asm.sub(2, 0, 1));
            Asm.setAll(x, v, v, 5, v ^ 32768);
            x.run(1);
            Check.same("set by " + v + " - " + v, x.register(Asm.ZERO), 1);
            x.run(1);
            Check.same("cleared by another", x.register(Asm.ZERO), 0);
            x.run(1);
            Check.same("set again", x.register(Asm.ZERO), 1);
        }
    }

    /** Only SUB speaks of ZERO: a 0 by another instruction does not set it, and another number does not clear it. */
    private static void onlySubChangesZero() {
        int[] others = {Asm.set(0, 0), Asm.add(0, 1, 1), Asm.load(0, 1, 5), Asm.pop(0), Asm.set(0, 3), Asm.push(0),
            Asm.store(1, 1, 60), Asm.GATE, Asm.go(9), Asm.goZero(9), Asm.call(1), Asm.raise(0), Asm.out(1),
            Asm.outCall(1), Asm.RETURN, Asm.STOP};
        for (int w : others) {
            TwoWorlds x = Asm.closed(w);
            x.run(1);
            Check.same("ZERO stays clear by " + w, x.register(Asm.ZERO), 0);
            x = Asm.closed(Asm.sub(5, 5, 5), w);
            x.run(2);
            Check.same("ZERO stays set by " + w, x.register(Asm.ZERO), 1);
        }
    }

    /** "NEXT is PC + 1 (mod 256)"; "All but those that set PC go on at NEXT." */
    private static void nextWraps() {
        int[] others = {Asm.set(0, 1), Asm.add(0, 1, 2), Asm.sub(0, 1, 2), Asm.load(0, 1, 9), Asm.store(0, 1, 9),
            Asm.push(0), Asm.pop(0), Asm.goZero(77), Asm.GATE, Asm.raise(0), Asm.STOP};
        for (int w : others) {
            int[] places = {0, 20, 254, 255};
            for (int pc : places) {
                TwoWorlds x = Asm.machine();
                x.set(1, 200);
                x.set(2, 5);
                x.poke(pc, w);
                x.begin(pc, false, 60, 180);
                Check.same("a step of " + w + " at " + pc, x.run(1), 1);
                Check.same("goes on at NEXT", x.register(Asm.PC), pc == 255 ? 0 : pc + 1);
            }
        }
        TwoWorlds x = new TwoWorlds();
        x.region(0, 255, 255, 1);
        x.begin(255, true, 60, 180);
        x.run(1);
        Check.registers("in the open world", x, Asm.PC, 0, 60, 180, 0, 1);
    }

    /** "CALL: LINK becomes NEXT" */
    private static void nextOfACallWraps() {
        int[] places = {0, 254, 255};
        for (int pc : places) {
            TwoWorlds x = Asm.machine();
            x.poke(pc, Asm.call(0));
            Asm.setAll(x, 40, 0, 0, 0, 0, 0, 9);
            x.begin(pc, false, 60, 180);
            x.run(1);
            Check.registers("CALL at " + pc, x, Asm.LINK, pc == 255 ? 0 : pc + 1, 40);
        }
    }

    /** "OUT CALL: .. NEXT is pushed" */
    private static void nextOfAnOutCallWraps() {
        int[] places = {0, 254, 255};
        for (int pc : places) {
            TwoWorlds x = Asm.machine();
            x.poke(pc, Asm.outCall(0));
            x.poke(59, 9);
            x.begin(pc, false, 60, 180);
            x.run(1);
            Check.words("OUT CALL at " + pc, x, 58, 4096, pc == 255 ? 0 : pc + 1);
        }
    }

    private static boolean namesA(int op) {
        return op <= 6;
    }

    private static boolean namesB(int op) {
        return op >= 1 && op <= 4 || op == 9 || op == 11 || op == 12;
    }

    private static boolean namesC(int op) {
        return op == 1 || op == 2;
    }

    private static void takesUnknown(int w, boolean due) {
        TwoWorlds x = afterOne(w, 200, 200, 200, 200, 200, 200, 200);
        Check.same("unknown: " + w, x.register(Asm.LAST), due ? 1 : 0);
        if (due) {
            Check.registers("R0 .. R5 stay", x, 0, 200, 200, 200, 200, 200, 200, 65409, 81, 50, 180, 0, 0, 1, 0, 0, 1);
            Check.same("its return", x.word(59), 20);
        }
    }

    /** "An instruction with a register 7 among those that it names below (Ra, Rb, Rc) is UNKNOWN." */
    private static void registerSeven() {
        for (int op = 0; op < 16; op++) {
            if (namesA(op)) {
                takesUnknown(Asm.op(op, 7, 0, 0), true);
            }
            if (namesB(op)) {
                takesUnknown(Asm.op(op, 0, 7, 0), true);
            }
            if (namesC(op)) {
                takesUnknown(Asm.op(op, 0, 0, 7), true);
            }
        }
    }

    /** LINK is the last register: 6 is none that makes an instruction unknown. */
    private static void registerSix() {
        for (int op = 0; op < 16; op++) {
            takesUnknown(Asm.op(op, 6, 6, 6), false);
        }
    }

    /** ".. among those that it names": 7 in bits that name no register makes nothing unknown. */
    private static void sevenThatIsNotNamed() {
        for (int op = 0; op < 16; op++) {
            int free = (namesA(op) ? 0 : 7 << 9) | (namesB(op) ? 0 : 7 << 6) | (namesC(op) ? 0 : 7 << 3) | 7;
            takesUnknown(op << 12 | free, false);
        }
    }

    /** "a, b, c are the three bits from bit 9, 6 and 3 on": each of the seven registers in each place. */
    private static void everyRegisterIsItself() {
        int[] values = {101, 202, 303, 404, 505, 606, 707};
        for (int a = 0; a <= 6; a++) {
            for (int b = 0; b <= 6; b++) {
                for (int c = 0; c <= 6; c++) {
                    isOnlyChange("ADD", afterOne(Asm.add(a, b, c), values), a, values[b] + values[c]);
                    isOnlyChange("SUB", afterOne(Asm.sub(a, b, c), values), a, values[b] - values[c] & 65535);
                }
                TwoWorlds x = Asm.closed(Asm.load(a, b, 3));
                Asm.setAll(x, values);
                x.poke(values[b] + 3, 5);
                x.run(1);
                isOnlyChange("LOAD", x, a, 5);
                x = afterOne(Asm.store(a, b, 3), values);
                Check.same("STORE", x.word(values[b] + 3), values[a]);
            }
            isOnlyChange("SET", afterOne(Asm.set(a, 9), values), a, 9);
            isOnlyChange("POP", afterOne(Asm.pop(a), values), a, 0);
            Check.same("PUSH", afterOne(Asm.push(a), values).word(59), values[a]);
            Check.same("CALL", afterOne(Asm.call(a), values).register(Asm.PC), values[a] % 256);
            Check.same("OUT", afterOne(Asm.out(a), values).register(Asm.PC), values[a] % 256);
            Check.same("OUT CALL", afterOne(Asm.outCall(a), values).register(Asm.PC), values[a] % 256);
        }
    }

    private static void isOnlyChange(String what, TwoWorlds x, int changed, int due) {
        for (int k = 0; k <= 6; k++) {
            Check.same(what + " to R" + changed + ": R" + k, x.register(k), k == changed ? due : 101 * (k + 1));
        }
    }

    /** "m its lowest 9 bits": "Ra becomes m" */
    private static void setOfTheLowestNine() {
        int[] values = {0, 1, 255, 256, 511};
        for (int m : values) {
            Check.same("SET R0, " + m, afterOne(Asm.set(0, m), 9).register(0), m);
            Check.same("SET LINK, " + m, afterOne(Asm.set(6, m), 9).register(6), m);
        }
    }

    /** "LOAD: Ra becomes the word at Rb + n", n being the lowest 6 bits, addresses mod 256. */
    private static void loadOffset() {
        int[][] places = {{0, 0, 0}, {0, 63, 63}, {193, 62, 255}, {193, 63, 0}, {255, 1, 0}, {256, 0, 0}, {511, 63, 62},
            {65535, 0, 255}, {65535, 1, 0}, {65535, 63, 62}, {65280, 63, 63}};
        for (int[] p : places) {
            TwoWorlds x = Asm.closed(Asm.load(1, 0, p[1]));
            x.set(0, p[0]);
            x.poke(p[2], 54321);
            x.run(1);
            Check.registers("LOAD at " + p[0] + " + " + p[1], x, 0, p[0], 54321);
        }
    }

    /** "STORE: Ra is written there." */
    private static void storeOffset() {
        int[][] places = {{0, 0, 0}, {0, 63, 63}, {193, 62, 255}, {193, 63, 0}, {255, 1, 0}, {256, 0, 0}, {511, 63, 62},
            {65535, 0, 255}, {65535, 1, 0}, {65535, 63, 62}, {65280, 63, 63}};
        for (int[] p : places) {
            TwoWorlds x = Asm.closed(Asm.store(1, 0, p[1]));
            x.set(0, p[0]);
            x.set(1, 65535);
            x.run(1);
            Check.same("STORE at " + p[0] + " + " + p[1], x.word(p[2]), 65535);
            Check.registers("registers stay", x, 0, p[0], 65535, 0, 0, 0, 0, 0, 21);
        }
    }

    /** LOAD writes no word, also where Ra is Rb. */
    private static void loadByTheRegisterItself() {
        TwoWorlds x = Asm.closed(Asm.load(0, 0, 63));
        x.set(0, 137);
        x.poke(200, 90);
        x.run(1);
        Check.registers("LOAD R0 by R0", x, 0, 90, 0, 0, 0, 0, 0, 0, 21);
        Check.same("where R0 was", x.word(200), 90);
        Check.same("where R0 is", x.word(153), 0);
    }

    /** "GO: PC becomes m % 256." */
    private static void goTarget() {
        int[] targets = {0, 20, 255, 256, 257, 511};
        for (int m : targets) {
            Check.same("GO " + m, afterOne(Asm.go(m)).register(Asm.PC), m % 256);
        }
    }

    /** "GO ZERO: likewise if ZERO is set." */
    private static void goZeroTarget() {
        int[] targets = {0, 20, 255, 256, 257, 511};
        for (int m : targets) {
            Check.same("GO ZERO " + m + " when clear", afterOne(Asm.goZero(m)).register(Asm.PC), 21);
            TwoWorlds x = Asm.closed(Asm.sub(0, 0, 0), Asm.goZero(m));
            x.run(2);
            Check.same("GO ZERO " + m + " when set", x.register(Asm.PC), m % 256);
        }
    }

    /** "CALL: .. PC becomes what Rb was, % 256": LINK may be Rb itself. */
    private static void callTarget() {
        int[] targets = {0, 255, 256, 511, 65535};
        for (int target : targets) {
            Check.registers("CALL " + target, afterOne(Asm.call(0), target), Asm.LINK, 21, target % 256, 60, 180, 0, 0);
            TwoWorlds x = afterOne(Asm.call(6), 0, 0, 0, 0, 0, 0, target);
            Check.registers("CALL LINK " + target, x, Asm.LINK, 21, target % 256, 60, 180, 0, 0);
        }
    }

    /** "OUT: in the closed world, the world is open and PC becomes Rb % 256." */
    private static void outTarget() {
        int[] targets = {0, 255, 256, 511, 65535};
        for (int target : targets) {
            TwoWorlds x = afterOne(Asm.out(5), 1, 2, 3, 4, 5, target, 7);
            Check.registers("OUT " + target, x, 0, 1, 2, 3, 4, 5, target, 7, target % 256, 60, 180, 0, 1, 0, 0, 0, 0);
        }
    }

    /** "LINK becomes 65520, the world is open, PC becomes what Rb was, % 256": LINK may be Rb itself. */
    private static void outCallTarget() {
        int[] targets = {0, 255, 256, 511, 65535};
        for (int target : targets) {
            TwoWorlds x = afterOne(Asm.outCall(6), 1, 2, 3, 4, 5, 6, target);
            Check.registers("OUT CALL LINK " + target, x, 0,
                1, 2, 3, 4, 5, 6, 65520, target % 256, 58, 180, 0, 1, 0, 0, 0, 0);
            x = afterOne(Asm.outCall(0), target);
            Check.registers("OUT CALL " + target, x, Asm.LINK, 65520, target % 256, 58, 180, 0, 1, 0, 0, 0, 0);
        }
    }

    /** "NEXT is pushed, and then 4096": in the closed world, also where its stack wraps. */
    private static void outCallLeavesTheOtherStack() {
        TwoWorlds x = Asm.closed(Asm.outCall(0));
        x.begin(20, false, 1, 180);
        x.run(1);
        Check.registers("pointers", x, Asm.CLOSED_STACK, 65535, 180);
        Check.same("NEXT", x.word(0), 21);
        Check.same("4096", x.word(255), 4096);
        Check.words("the open stack", x, 178, 0, 0);
    }

    /** "RAISE: exception 3 + c % 4 is PENDING." */
    private static void raiseOfCModFour() {
        for (int c = 0; c < 8; c++) {
            int due = 1 << 3 + c % 4;
            Check.registers("RAISE " + c, afterOne(Asm.raise(c)), Asm.PC, 21, 60, 180, 0, 0, 0, 0, due, 0);
            TwoWorlds x = Asm.open(Asm.raise(c) | 7);
            x.run(1);
            Check.registers("RAISE " + c + " in the open world", x, Asm.PC, 101, 60, 180, 0, 1, 0, 0, due, 0);
        }
    }

    /** RAISE makes one pending: those that are so stay so, and the same one again is so once. */
    private static void raiseBesideOthers() {
        TwoWorlds x = Asm.handling(3);
        Asm.put(x, 201, Asm.raise(1), Asm.raise(1), Asm.raise(7), Asm.raise(2), Asm.raise(4));
        int[] due = {16, 16, 80, 112, 120};
        for (int pending : due) {
            x.run(1);
            Check.registers("pending", x, Asm.ACTIVE, 3, 0, pending, 3);
        }
    }

    /** "STOP: in the closed world the machine stands still." */
    private static void stopStandsStill() {
        TwoWorlds x = afterOne(Asm.STOP, 1, 2, 3, 4, 5, 6, 7);
        Check.registers("STOP", x, 0, 1, 2, 3, 4, 5, 6, 7, 21, 60, 180, 0, 0, 0, 1, 0, 0);
    }

    /** "11, 12 and 15 in the open world are unknown." */
    private static void closedOnlyInTheOpenWorld() {
        int[] words = {Asm.out(0), Asm.outCall(0), Asm.STOP, Asm.STOP | 4095};
        for (int w : words) {
            TwoWorlds x = Asm.open(w);
            Asm.setAll(x, 105, 0, 0, 0, 0, 0, 99);
            x.run(1);
            Check.registers(w + " in the open world", x, Asm.LINK, 65408, 81, 60, 170, 0, 0, 1, 0, 0, 1);
            Check.words("nothing but the frame", x, 169, 0, 1000, 0, 0, 0, 0, 0, 105, 99, 0, 100);
            Check.words("nothing on the closed stack", x, 58, 0, 0);
        }
    }

    /** An unknown instruction is not done: what it would read or write is no breach. */
    private static void unknownBeforeABreach() {
        int[] words = {Asm.load(7, 0, 0), Asm.load(0, 7, 0), Asm.store(7, 0, 0), Asm.store(0, 7, 0), Asm.push(7),
            Asm.pop(7)};
        for (int w : words) {
            TwoWorlds x = Asm.open(w);
            x.run(1);
            Check.same(w + " is unknown", x.register(Asm.LAST), 1);
            x = Asm.machine();
            x.poke(90, w);
            x.begin(90, true, 60, 180);
            x.run(1);
            Check.same(w + " that may not be fetched is a breach", x.register(Asm.LAST), 2);
        }
        TwoWorlds x = Asm.open(Asm.UNKNOWN);
        x.settings(false, 0, 0, 20);
        x.run(1);
        Check.same("unknown when breaches are not enabled", x.register(Asm.LAST), 1);
    }

    /** "To push, its pointer falls by 1 (mod 65536), and the word is written there" */
    private static void pushFallsBelowZero() {
        int[][] pointers = {{0, 65535}, {1, 0}, {256, 255}, {65535, 65534}};
        for (int[] p : pointers) {
            TwoWorlds x = Asm.closed(Asm.push(6));
            x.set(6, 54321);
            x.begin(20, false, p[0], 180);
            x.run(1);
            Check.registers("PUSH at " + p[0], x, Asm.LINK, 54321, 21, p[1], 180, 0, 0);
            Check.same("written", x.word(p[1]), 54321);
            x = new TwoWorlds();
            x.region(0, 0, 255, 1);
            x.poke(100, Asm.push(6));
            x.set(6, 54321);
            x.begin(100, true, 180, p[0]);
            x.run(1);
            Check.registers("open PUSH at " + p[0], x, Asm.LINK, 54321, 101, 180, p[1], 0, 1);
            Check.same("written", x.word(p[1]), 54321);
        }
    }

    /** "To pop, the word there is read, and the pointer grows by 1." */
    private static void popGrowsBeyondTheGreatest() {
        int[][] pointers = {{65535, 0}, {0, 1}, {255, 256}, {65534, 65535}};
        for (int[] p : pointers) {
            TwoWorlds x = Asm.closed(Asm.pop(6));
            x.poke(p[0], 54321);
            x.begin(20, false, p[0], 180);
            x.run(1);
            Check.registers("POP at " + p[0], x, Asm.LINK, 54321, 21, p[1], 180, 0, 0);
            Check.same("the word stays", x.word(p[0]), 54321);
            x = new TwoWorlds();
            x.region(0, 0, 255, 1);
            x.poke(100, Asm.pop(6));
            x.poke(p[0], 54321);
            x.begin(100, true, 180, p[0]);
            x.run(1);
            Check.registers("open POP at " + p[0], x, Asm.LINK, 54321, 101, 180, p[1], 0, 1);
        }
    }

    /** Pointers have 16 bits, addresses are taken mod 256. */
    private static void stackAddressWraps() {
        TwoWorlds x = Asm.closed(Asm.push(0), Asm.push(0));
        x.set(0, 7);
        x.begin(20, false, 513, 180);
        x.run(2);
        Check.same("pointer", x.register(Asm.CLOSED_STACK), 511);
        Check.same("at 512", x.word(0), 7);
        Check.same("at 511", x.word(255), 7);
    }

    /** "The STACK is that of the world" */
    private static void stackIsThatOfTheWorld() {
        TwoWorlds x = Asm.closed(Asm.push(0), Asm.pop(1), Asm.pop(1));
        x.run(1);
        Check.registers("PUSH", x, Asm.CLOSED_STACK, 59, 180);
        x.run(2);
        Check.registers("POP", x, Asm.CLOSED_STACK, 61, 180);
        x = Asm.open(Asm.push(0), Asm.pop(1), Asm.pop(1));
        x.run(1);
        Check.registers("open PUSH", x, Asm.CLOSED_STACK, 60, 179);
        x.run(2);
        Check.registers("open POP", x, Asm.CLOSED_STACK, 60, 181);
    }
}
