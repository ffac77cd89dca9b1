/** The edges that the terms name for access and faults and for RETURN, a method for each sentence. */
public final class EdgesOfWorldsTest {
    private static final int[] NOT_OPEN = {95, 192, 63, 64, 71, 72, 150};

    public static void main(String[] args) {
        fetchInTheClosedWorld();
        fetchInTheOpenWorld();
        onlyAGateAtGates();
        gateClosesTheWorld();
        gateThatIsNoChange();
        openReads();
        openWrites();
        openPushes();
        openPops();
        closedReadsAndWrites();
        faultTakesBackStackPointers();
        faultTakesBackWhatAnEndDid();
        faultTakesBackTheWorld();
        faultOfAnEarlierInstruction();
        breachThatIsNotEnabled();
        lockedIfOneIsActive();
        lockedIfBothAreTwo();
        takenOtherwise();
        takenWithPcAsReturn();
        returnBelow32768();
        returnFrom32768();
        returnFrom32768InTheOpenWorld();
        returnBy65520();
        returnBy65520HasToFind4096();
        returnBy65520InTheClosedWorld();
        returnByAnEndWhenNothingIsActive();
        returnByAllElse();
        Check.end();
    }

    /** {@link Asm#machine()} with one word, 150, that two regions have. */
    private static TwoWorlds at(int pc, boolean open, int w) {
        TwoWorlds x = Asm.machine();
        x.region(2, 150, 150, 1);
        x.poke(pc, w);
        x.begin(pc, open, 60, 180);
        return x;
    }

    private static void isBreach(String what, TwoWorlds x, boolean open, int pc) {
        Check.same(what + ": a step", x.run(1), 1);
        Check.registers(what, x, Asm.LINK, open ? 65408 : 65409, 82, open ? 60 : 50, open ? 170 : 180, 0, 0, 2, 0, 0, 2);
        Check.same(what + ": its return", x.word(open ? 179 : 59), pc);
    }

    /** "In the closed world it has to be closed or for gates" */
    private static void fetchInTheClosedWorld() {
        int[] fine = {0, 63, 64, 71, 72, 95, 150, 192, 255};
        for (int pc : fine) {
            TwoWorlds x = at(pc, false, Asm.set(0, 5));
            x.run(1);
            Check.registers("fetched at " + pc, x, Asm.PC, (pc + 1) % 256, 60, 180, 0, 0, 0, 0, 0, 0);
            Check.same("and done", x.register(0), 5);
        }
        int[] wrong = {96, 149, 151, 191};
        for (int pc : wrong) {
            isBreach("SET at " + pc, at(pc, false, Asm.set(0, 5)), false, pc);
            isBreach("GATE at " + pc, at(pc, false, Asm.GATE), false, pc);
        }
    }

    /** "In the open world it has to be open" */
    private static void fetchInTheOpenWorld() {
        int[] fine = {96, 149, 151, 191};
        for (int pc : fine) {
            TwoWorlds x = at(pc, true, Asm.set(0, 5));
            x.run(1);
            Check.registers("fetched at " + pc, x, Asm.PC, pc + 1, 60, 180, 0, 1, 0, 0, 0, 0);
            Check.same("and done", x.register(0), 5);
        }
        int[] wrong = {0, 63, 72, 95, 150, 192, 255};
        for (int pc : wrong) {
            isBreach("SET at " + pc, at(pc, true, Asm.set(0, 5)), true, pc);
            isBreach("GATE at " + pc, at(pc, true, Asm.GATE), true, pc);
        }
    }

    /** ".. or for gates and a GATE" */
    private static void onlyAGateAtGates() {
        for (int op = 0; op < 16; op++) {
            int w = op << 12;
            if (op == 10) {
                TwoWorlds x = at(64, true, w | 4095);
                x.run(1);
                Check.same("GATE with any other bits", x.register(Asm.LAST), 0);
            } else {
                isBreach("op " + op + " at 64", at(64, true, w), true, 64);
                isBreach("op " + op + " at 71", at(71, true, w), true, 71);
            }
        }
    }

    /** "Then the world becomes closed, and bit 15 of LINK is set." */
    private static void gateClosesTheWorld() {
        int[] links = {0, 1, 32767, 32768, 65535};
        int[] places = {64, 71};
        for (int link : links) {
            for (int pc : places) {
                TwoWorlds x = at(pc, true, Asm.GATE);
                Asm.setAll(x, 1, 2, 3, 4, 5, 6, link);
                x.run(1);
                Check.registers("GATE at " + pc, x, 0,
                    1, 2, 3, 4, 5, 6, link < 32768 ? link + 32768 : link, pc + 1, 60, 180, 0, 0, 0, 0, 0, 0);
            }
        }
        TwoWorlds x = new TwoWorlds();
        x.region(0, 255, 255, 2);
        x.poke(255, Asm.GATE);
        x.begin(255, true, 60, 180);
        x.run(1);
        Check.registers("GATE at the last word", x, Asm.LINK, 32768, 0, 60, 180, 0, 0);
    }

    /** "GATE: nothing": in the closed world, and at open words, neither world nor LINK changes. */
    private static void gateThatIsNoChange() {
        int[] places = {20, 64, 71, 150};
        for (int pc : places) {
            TwoWorlds x = at(pc, false, Asm.GATE);
            x.set(6, 7);
            x.run(1);
            Check.registers("closed GATE at " + pc, x, Asm.LINK, 7, pc + 1, 60, 180, 0, 0, 0, 0, 0, 0);
        }
        TwoWorlds x = at(96, true, Asm.GATE);
        x.set(6, 7);
        x.run(1);
        Check.registers("GATE at an open word", x, Asm.LINK, 7, 97, 60, 180, 0, 1, 0, 0, 0, 0);
    }

    /** "Words that are read .. in the open world have to be open." */
    private static void openReads() {
        for (int address : NOT_OPEN) {
            TwoWorlds x = at(100, true, Asm.load(1, 0, 0));
            x.set(0, address);
            isBreach("LOAD at " + address, x, true, 100);
            Check.registers("nothing is read", x, 0, address, 0);
            x = at(100, true, Asm.load(1, 0, 63));
            x.set(0, address - 63);
            isBreach("LOAD n at " + address, x, true, 100);
        }
        int[] fine = {96, 149, 151, 191, 256 + 96};
        for (int address : fine) {
            TwoWorlds x = at(100, true, Asm.load(1, 0, 0));
            x.poke(address, 12345);
            x.set(0, address);
            x.run(1);
            Check.registers("LOAD at " + address, x, 0, address, 12345, 0, 0, 0, 0, 0, 101, 60, 180, 0, 1, 0, 0, 0, 0);
        }
    }

    /** "Words that are .. written in the open world have to be open." */
    private static void openWrites() {
        for (int address : NOT_OPEN) {
            TwoWorlds x = at(100, true, Asm.store(1, 0, 0));
            Asm.setAll(x, address, 12345);
            isBreach("STORE at " + address, x, true, 100);
            Check.same("nothing is written", x.word(address), 0);
            x = at(100, true, Asm.store(1, 0, 63));
            Asm.setAll(x, address - 63, 12345);
            isBreach("STORE n at " + address, x, true, 100);
            Check.same("nothing is written", x.word(address), 0);
        }
        int[] fine = {96, 149, 151, 191, 256 + 96};
        for (int address : fine) {
            TwoWorlds x = at(100, true, Asm.store(1, 0, 0));
            Asm.setAll(x, address, 12345);
            x.run(1);
            Check.same("STORE at " + address, x.word(address), 12345);
            Check.registers("STORE at " + address, x, Asm.PC, 101, 60, 180, 0, 1, 0, 0, 0, 0);
        }
    }

    /** A PUSH writes: the word under the pointer counts. As the frame would be refused too, the machine locks. */
    private static void openPushes() {
        int[] wrong = {96, 193, 64, 65, 72, 151};
        for (int pointer : wrong) {
            TwoWorlds x = at(100, true, Asm.push(1));
            x.set(1, 12345);
            x.begin(100, true, 60, pointer);
            x.run(1);
            Check.registers("PUSH at " + pointer, x, Asm.PC, 100, 60, pointer, 0, 1, 0, 2, 0, 0);
            Check.same("nothing is written", x.word(pointer - 1), 0);
        }
        int[] fine = {97, 192, 256 + 97};
        for (int pointer : fine) {
            TwoWorlds x = at(100, true, Asm.push(1));
            x.set(1, 12345);
            x.begin(100, true, 60, pointer);
            x.run(1);
            Check.registers("PUSH at " + pointer, x, Asm.PC, 101, 60, pointer - 1, 0, 1, 0, 0, 0, 0);
            Check.same("written", x.word(pointer - 1), 12345);
        }
    }

    /** A POP reads: the word at the pointer counts. */
    private static void openPops() {
        TwoWorlds x = at(100, true, Asm.pop(1));
        x.begin(100, true, 60, 192);
        x.run(1);
        Check.registers("POP at 192", x, Asm.LINK, 65408, 82, 60, 182, 0, 0, 2, 0, 0, 2);
        int[] locked = {95, 64};
        for (int pointer : locked) {
            x = at(100, true, Asm.pop(1));
            x.begin(100, true, 60, pointer);
            x.run(1);
            Check.registers("POP at " + pointer, x, Asm.PC, 100, 60, pointer, 0, 1, 0, 2, 0, 0);
        }
        int[] fine = {96, 191};
        for (int pointer : fine) {
            x = at(100, true, Asm.pop(1));
            x.poke(pointer, 12345);
            x.begin(100, true, 60, pointer);
            x.run(1);
            Check.registers("POP at " + pointer, x, Asm.PC, 101, 60, pointer + 1, 0, 1, 0, 0, 0, 0);
            Check.same("popped", x.register(1), 12345);
        }
    }

    /** Only in the open world do words that are read or written have to be open. */
    private static void closedReadsAndWrites() {
        int[] all = {0, 63, 64, 71, 72, 95, 96, 150, 191, 192, 255};
        for (int address : all) {
            TwoWorlds x = Asm.closed(Asm.load(1, 0, 0), Asm.store(2, 0, 0), Asm.pop(3), Asm.push(4));
            x.region(2, 150, 150, 1);
            Asm.setAll(x, address, 0, 222, 0, 444);
            x.poke(address, 111);
            x.begin(20, false, address, 180);
            x.run(3);
            Check.registers("read at " + address, x, 0, address, 111, 222, 222, 444, 0, 0, 23, address + 1, 180);
            x.run(1);
            Check.same("pushed to " + address, x.word(address), 444);
            Check.registers("no fault", x, Asm.PC, 24, address, 180, 0, 0, 0, 0, 0, 0);
        }
    }

    /** "A fault takes back what its instruction did to registers, stack pointers, PC .." */
    private static void faultTakesBackStackPointers() {
        TwoWorlds x = Asm.open(Asm.pop(1));
        x.begin(100, true, 60, 192);
        x.set(1, 7);
        x.run(1);
        Check.registers("POP", x, 1, 7, 0, 0, 0, 0, 65408, 82, 60, 182, 0, 0, 2, 0, 0, 2);
        Check.words("frame", x, 182, 1000, 0, 0, 0, 0, 7, 0, 0, 0, 100);
        x = Asm.open(Asm.RETURN);
        Asm.setAll(x, 1, 2, 3, 4, 5, 6, 65520);
        x.run(1);
        Check.registers("RETURN", x, 0, 1, 2, 3, 4, 5, 6, 65408, 82, 60, 170, 0, 0, 2, 0, 0, 2);
        Check.words("frame", x, 170, 1000, 6, 5, 4, 3, 2, 1, 65520, 0, 100);
    }

    /** ".. ZERO and world", and all that an END popped before its last word was refused. */
    private static void faultTakesBackWhatAnEndDid() {
        for (int zero = 0; zero <= 1; zero++) {
            TwoWorlds x = Asm.handling(3);
            Asm.put(x, 180, 1000, 16, 15, 14, 13, 12, 11, 10, 1 - zero, 9);
            x.region(1, 96, 188, 1);
            Asm.put(x, 201, zero == 1 ? Asm.sub(0, 0, 0) : Asm.GATE, Asm.RETURN);
            x.run(1);
            Asm.setAll(x, 1, 2, 3, 4, 5, 6, 65408);
            x.run(1);
            Check.registers("END", x, 0, 1, 2, 3, 4, 5, 6, 65408 + 49, 82, 40, 180, zero, 0, 2, 0, 0, 2);
            Check.words("frame", x, 40, 1003, 6, 5, 4, 3, 2, 1, 65408, zero, 202);
        }
    }

    /** ".. (with it also the change by a gate)": the frame of a fault is that of the world before. */
    private static void faultTakesBackTheWorld() {
        TwoWorlds x = Asm.open(Asm.RETURN);
        x.set(6, 65520);
        x.poke(60, 4095);
        x.run(1);
        Check.registers("the closed world was left again", x, Asm.LINK, 65408, 82, 60, 170, 0, 0, 2, 0, 0, 2);
        Check.words("nothing on its stack", x, 58, 0, 0, 4095);
    }

    /** "what its instruction did": the one before stays done, as does a taking before it in the same step. */
    private static void faultOfAnEarlierInstruction() {
        TwoWorlds x = Asm.open(Asm.sub(0, 0, 0), Asm.push(1), Asm.UNKNOWN);
        x.set(1, 7);
        x.run(3);
        Check.words("frame", x, 169, 1000, 0, 0, 0, 0, 7, 0, 0, 1, 102, 7);
        x = Asm.open(Asm.GATE);
        x.poke(114, Asm.UNKNOWN);
        x.interrupt(4);
        Check.same("a step", x.run(1), 1);
        Check.registers("1 in 4", x, Asm.LINK, 65408 + 64, 81, 60, 160, 0, 0, 1, 0, 0, 1);
        Check.words("frame", x, 160, 1004, 0, 0, 0, 0, 0, 0, 65408, 0, 114);
    }

    /** "A breach, if breaches are not ENABLED, is exception 1 instead." */
    private static void breachThatIsNotEnabled() {
        TwoWorlds x = Asm.open(Asm.load(0, 0, 0));
        x.settings(false, 0, 0, 20);
        x.run(1);
        Check.registers("not enabled", x, Asm.LINK, 65408, 81, 60, 170, 0, 0, 1, 0, 0, 1);
        x = Asm.open(Asm.load(0, 0, 0));
        x.settings(false, 0, 0, 20);
        x.settings(true, 0, 0, 20);
        x.run(1);
        Check.registers("enabled again", x, Asm.LINK, 65408, 82, 60, 170, 0, 0, 2, 0, 0, 2);
    }

    private static TwoWorlds stepHandling(int e, int w, boolean enabled) {
        TwoWorlds x = Asm.handling(e);
        x.settings(enabled, 15, 0, 20);
        x.poke(201, w);
        x.set(6, 65535);
        Check.same("a step", x.run(1), 1);
        return x;
    }

    /** "If ACTIVE is 1 .. the machine is LOCKED." */
    private static void lockedIfOneIsActive() {
        int[] faults = {Asm.UNKNOWN, Asm.RETURN};
        for (int w : faults) {
            Check.registers("locked", stepHandling(1, w, true), Asm.LINK, 65535, 201, 50, 180, 0, 0, 1, 2, 0, 1);
            Check.registers("locked", stepHandling(1, w, false), Asm.LINK, 65535, 201, 50, 180, 0, 0, 1, 2, 0, 1);
        }
        Check.same("no frame", stepHandling(1, Asm.UNKNOWN, true).word(49), 0);
    }

    /** ".. or both are 2 .." */
    private static void lockedIfBothAreTwo() {
        TwoWorlds x = stepHandling(2, Asm.RETURN, true);
        Check.registers("a breach in 2", x, Asm.LINK, 65535, 201, 50, 180, 0, 0, 2, 2, 0, 2);
        Check.same("no frame", x.word(49), 0);
        x = stepHandling(2, Asm.UNKNOWN, true);
        Check.registers("1 in 2", x, Asm.LINK, 65408 + 33, 81, 40, 180, 0, 0, 1, 0, 0, 1);
        x = stepHandling(2, Asm.RETURN, false);
        Check.registers("a breach that is 1 in 2", x, Asm.LINK, 65408 + 33, 81, 40, 180, 0, 0, 1, 0, 0, 1);
    }

    /** "Otherwise the exception is TAKEN": by what is greater than both too. */
    private static void takenOtherwise() {
        for (int e = 3; e <= 6; e++) {
            int link = 65408 + 16 * e + 1;
            TwoWorlds x = stepHandling(e, Asm.UNKNOWN, true);
            Check.registers("1 in " + e, x, Asm.LINK, link, 81, 40, 180, 0, 0, 1, 0, 0, 1);
            Check.same("its mark", x.word(40), 1000 + e);
            x = stepHandling(e, Asm.RETURN, true);
            Check.registers("2 in " + e, x, Asm.LINK, link, 82, 40, 180, 0, 0, 2, 0, 0, 2);
            x = stepHandling(e, Asm.RETURN, false);
            Check.registers("2 that is 1 in " + e, x, Asm.LINK, link, 81, 40, 180, 0, 0, 1, 0, 0, 1);
        }
    }

    /** ".. with PC as return": that of the instruction, not NEXT nor where it would go. */
    private static void takenWithPcAsReturn() {
        int[] places = {0, 20, 254, 255};
        for (int pc : places) {
            TwoWorlds x = at(pc, false, Asm.UNKNOWN);
            x.run(1);
            Check.same("return to " + pc, x.word(59), pc);
            x = at(pc, false, Asm.RETURN);
            x.set(6, 65535);
            x.run(1);
            Check.same("return to the RETURN at " + pc, x.word(59), pc);
        }
    }

    private static TwoWorlds returnBy(boolean open, int link) {
        TwoWorlds x = open ? Asm.open(Asm.RETURN) : Asm.closed(Asm.RETURN);
        x.set(6, link);
        return x;
    }

    /** "LINK below 32768: PC becomes LINK % 256." */
    private static void returnBelow32768() {
        int[] links = {0, 1, 255, 256, 32767};
        for (int link : links) {
            for (int open = 0; open <= 1; open++) {
                TwoWorlds x = returnBy(open == 1, link);
                x.run(1);
                Check.registers("LINK " + link, x, Asm.LINK, link, link % 256, 60, 180, 0, open, 0, 0, 0, 0);
            }
            TwoWorlds x = Asm.handling(4);
            x.poke(201, Asm.RETURN);
            x.set(6, link);
            x.run(1);
            Check.registers("in a handler", x, Asm.LINK, link, link % 256, 50, 180, 0, 0, 4, 0, 0, 4);
        }
    }

    /** "From 32768 to 65407, in the closed world: the world is open, and PC becomes LINK % 256." */
    private static void returnFrom32768() {
        int[] links = {32768, 32769, 33023, 65280, 65407};
        for (int link : links) {
            TwoWorlds x = returnBy(false, link);
            Asm.setAll(x, 1, 2, 3, 4, 5, 6);
            x.run(1);
            Check.registers("LINK " + link, x, 0, 1, 2, 3, 4, 5, 6, link, link % 256, 60, 180, 0, 1, 0, 0, 0, 0);
            x = Asm.handling(4);
            x.poke(201, Asm.RETURN);
            x.set(6, link);
            x.run(1);
            Check.registers("in a handler", x, Asm.LINK, link, link % 256, 50, 180, 0, 1, 4, 0, 0, 4);
        }
    }

    /** In the open world these are among "all else". */
    private static void returnFrom32768InTheOpenWorld() {
        int[] links = {32768, 32769, 65280, 65407};
        for (int link : links) {
            isBreach("open RETURN by " + link, returnBy(true, link), true, 100);
        }
        int[] likeAnEnd = {32768, 32769, 65280, 65281, 65407};
        for (int link : likeAnEnd) {
            TwoWorlds x = Asm.handling(4);
            Asm.put(x, 201, Asm.out(0));
            Asm.put(x, 130, Asm.RETURN);
            x.set(0, 130);
            x.set(6, link);
            x.poke(50, 1000 + (link >> 4 & 7));
            x.poke(180, 1000 + (link >> 4 & 7));
            x.run(2);
            Check.registers("in a handler", x, Asm.LINK, 65408 + 64, 82, 50, 170, 0, 0, 2, 0, 0, 2);
        }
    }

    /** "65520, in the open world: the world is closed, and two words are popped (in the closed world)" */
    private static void returnBy65520() {
        int[][] stacks = {{60, 62}, {0, 2}, {254, 256}, {65534, 0}, {65535, 1}};
        int[][] seconds = {{0, 0}, {255, 255}, {256, 0}, {65535, 255}};
        for (int[] stack : stacks) {
            for (int[] second : seconds) {
                TwoWorlds x = returnBy(true, 65520);
                Asm.put(x, stack[0], 4096, second[0]);
                x.begin(100, true, stack[0], 180);
                x.run(1);
                Check.registers("back by " + stack[0], x, Asm.LINK, 65520, second[1], stack[1], 180, 0, 0, 0, 0, 0, 0);
            }
        }
    }

    /** "The first has to be 4096, otherwise it is a breach" */
    private static void returnBy65520HasToFind4096() {
        int[] wrong = {0, 4095, 4097, 1000, 8192, 65535};
        for (int first : wrong) {
            TwoWorlds x = returnBy(true, 65520);
            Asm.put(x, 60, first, 4096);
            isBreach("back by " + first, x, true, 100);
        }
    }

    /** In the closed world 65520 is among "all else", whatever stands on the stack. */
    private static void returnBy65520InTheClosedWorld() {
        TwoWorlds x = returnBy(false, 65520);
        Asm.put(x, 60, 4096, 30);
        isBreach("closed RETURN by 65520", x, false, 20);
    }

    /** "65408 to 65519, when ACTIVE is not 0: an END": a breach when it is 0, whatever stands on the stacks. */
    private static void returnByAnEndWhenNothingIsActive() {
        for (int link = 65408; link <= 65519; link++) {
            TwoWorlds x = returnBy(false, link);
            x.poke(60, 1000 + (link - 65408) / 16);
            x.poke(180, 1000 + (link - 65408) / 16);
            isBreach("closed RETURN by " + link, x, false, 20);
            x = returnBy(true, link);
            x.poke(60, 1000 + (link - 65408) / 16);
            x.poke(180, 1000 + (link - 65408) / 16);
            isBreach("open RETURN by " + link, x, true, 100);
        }
    }

    /** "All else is a breach." */
    private static void returnByAllElse() {
        for (int link = 65521; link <= 65535; link++) {
            isBreach("closed RETURN by " + link, returnBy(false, link), false, 20);
            isBreach("open RETURN by " + link, returnBy(true, link), true, 100);
            TwoWorlds x = Asm.handling(3);
            Asm.put(x, 50, 1007, 0, 0, 0, 0, 0, 0, 0, 0, 7);
            x.poke(201, Asm.RETURN);
            x.set(6, link);
            x.run(1);
            Check.registers("in a handler", x, Asm.LINK, 65408 + 49, 82, 40, 180, 0, 0, 2, 0, 0, 2);
        }
    }
}
