/** The edges that the terms name for exceptions, an END and what is pending, a method for each sentence. */
public final class EdgesOfExceptionsTest {
    public static void main(String[] args) {
        oneAndTwoAreClosed();
        threeToSixAreWhereSet();
        vectorAddress();
        frameOrder();
        frameWrapsRound();
        frameIsOfThePresentWorld();
        frameThatMayNotBeWritten();
        frameOfAPendingOneThatMayNotBeWritten();
        frameWithAHole();
        linkOfATaking();
        clearedFromClosedToOpen();
        notClearedOtherwise();
        vectorMod256();
        vectorOfAnyKind();
        vectorUnderTheFrame();
        endBounds();
        endWorld();
        endActive();
        endOtherBits();
        endMark();
        endOrder();
        endZero();
        endPc();
        endWrapsRound();
        endOfAWordThatMayNotBeRead();
        endInTheClosedWorldReadsAll();
        leastOfThePending();
        lessThanActive();
        anyIfNothingIsActive();
        noneInOneAndTwo();
        takenAndNotPendingAnyMore();
        pendingAgain();
        instructionInTheSameStep();
        takenBeforeAnInstructionThatMayNotBeFetched();
        Check.end();
    }

    /** "EXCEPTIONS 1 and 2 are handled in the closed world": whatever is set for the others. */
    private static void oneAndTwoAreClosed() {
        for (int closed = 0; closed <= 15; closed += 15) {
            TwoWorlds x = Asm.open(Asm.UNKNOWN);
            x.settings(true, closed, 0, 20);
            x.run(1);
            Check.registers("1", x, Asm.PC, 81, 60, 170, 0, 0, 1, 0, 0, 1);
            x = Asm.open(Asm.load(0, 0, 0));
            x.settings(true, closed, 0, 20);
            x.run(1);
            Check.registers("2", x, Asm.PC, 82, 60, 170, 0, 0, 2, 0, 0, 2);
        }
    }

    /** "3 .. 6 each in the world that is set." */
    private static void threeToSixAreWhereSet() {
        for (int closed = 0; closed <= 15; closed++) {
            for (int e = 3; e <= 6; e++) {
                TwoWorlds x = Asm.open(Asm.GATE);
                x.settings(true, closed, 0, 20);
                Asm.put(x, 80 + e, Asm.GATE);
                Asm.put(x, 110 + e, Asm.GATE);
                x.interrupt(e);
                x.run(1);
                boolean open = (closed >> e - 3 & 1) == 0;
                Check.registers(e + " when closed is " + closed, x, Asm.PC,
                    (open ? 111 : 81) + e, 60, 170, 0, open ? 1 : 0, e, 0, 0, e);
            }
        }
    }

    /** "The VECTOR of an exception e is the word at 8 * its world's BASE + e (closed or open base)." */
    private static void vectorAddress() {
        int[] bases = {0, 1, 30, 31};
        for (int base : bases) {
            int other = base == 1 ? 2 : 1;
            for (int e = 1; e <= 6; e++) {
                TwoWorlds x = new TwoWorlds();
                x.poke(8 * base + e, 128);
                x.poke(200, e == 1 ? Asm.UNKNOWN : Asm.GATE);
                x.region(0, 208, 208, 1);
                x.settings(true, 15, base, other);
                x.begin(e == 2 ? 208 : 200, false, 190, 190);
                x.interrupt(e);
                x.run(1);
                Check.registers("closed " + e + " by " + base, x, Asm.PC, e < 3 ? 128 : 129, 180, 190, 0, 0, e, 0, 0, e);
                if (e >= 3) {
                    x.region(0, 120, 140, 1);
                    x.settings(true, 0, other, base);
                    x.begin(200, false, 190, 190);
                    x.interrupt(e);
                    x.run(1);
                    Check.registers("open " + e + " by " + base, x, Asm.PC, 129, 180, 190, 0, 1, e, 0, 0, e);
                }
            }
        }
    }

    /** "In the present world are pushed: the return address, ZERO (0 or 1), LINK, R0 .. R5, and 1000 + ACTIVE." */
    private static void frameOrder() {
        for (int zero = 0; zero <= 1; zero++) {
            TwoWorlds x = Asm.closed(zero == 1 ? Asm.sub(0, 0, 0) : Asm.GATE, Asm.UNKNOWN);
            x.run(1);
            Asm.setAll(x, 10, 11, 12, 13, 14, 65535, 32768);
            x.run(1);
            Check.words("frame", x, 49, 0, 1000, 65535, 14, 13, 12, 11, 10, 32768, zero, 21, 0);
            Check.registers("R0 .. R5 and ZERO stay", x, 0,
                10, 11, 12, 13, 14, 65535, 65409, 81, 50, 180, zero, 0, 1, 0, 0, 1);
        }
    }

    /** A frame that begins below ten goes on at the end of memory, its pointer mod 65536. */
    private static void frameWrapsRound() {
        int[][] pointers = {{0, 65526}, {1, 65527}, {9, 65535}, {10, 0}, {256, 246}, {65535, 65525}};
        for (int[] p : pointers) {
            TwoWorlds x = Asm.closed(Asm.UNKNOWN);
            Asm.setAll(x, 10, 11, 12, 13, 14, 15, 16);
            x.settings(true, 0, 4, 20);
            x.begin(20, false, p[0], 180);
            x.run(1);
            Check.registers("frame below " + p[0], x, Asm.CLOSED_STACK, p[1], 180);
            Check.words("frame below " + p[0], x, p[1], 1000, 15, 14, 13, 12, 11, 10, 16, 0, 20);
        }
    }

    /** "In the present world": not in that of the exception. */
    private static void frameIsOfThePresentWorld() {
        TwoWorlds x = Asm.open(Asm.UNKNOWN);
        x.run(1);
        Check.registers("open to closed", x, Asm.CLOSED_STACK, 60, 170);
        Check.same("none on the closed stack", x.word(59), 0);
        x = Asm.closed(Asm.GATE);
        x.interrupt(3);
        x.run(1);
        Check.registers("closed to open", x, Asm.CLOSED_STACK, 50, 180);
        Check.same("none on the open stack", x.word(179), 0);
    }

    private static void isLocked(String what, TwoWorlds x, int pointer, int pending) {
        Check.same(what + ": the step counts", x.run(9), 1);
        Check.registers(what, x, 0, 1, 2, 3, 4, 5, 6, 7, 120, 60, pointer, 0, 1, 0, 2, pending, 0);
    }

    private static void isPartOfAFrame(TwoWorlds x, int pointer, int words) {
        int[] frame = {120, 0, 7, 1, 2, 3, 4, 5, 6, 1000};
        for (int i = 0; i < 10; i++) {
            Check.same("word " + i + " of a frame", x.word(pointer - 1 - i), i < words ? frame[i] : 0);
        }
    }

    /** "When one of these may not be written, the machine is LOCKED (what was pushed stays, registers are as before" */
    private static void frameThatMayNotBeWritten() {
        for (int room = 0; room <= 10; room++) {
            TwoWorlds x = Asm.machine();
            x.poke(120, Asm.UNKNOWN);
            x.begin(120, true, 60, 96 + room);
            Asm.setAll(x, 1, 2, 3, 4, 5, 6, 7);
            if (room < 10) {
                isLocked("room for " + room, x, 96 + room, 0);
            } else {
                x.run(9);
                Check.same("room for all: no lock by that", x.word(96), 1000);
                Check.same("and it is taken", x.register(Asm.LAST), 1);
            }
            isPartOfAFrame(x, 96 + room, room);
        }
    }

    /** The same before an instruction: that one is not done, the others stay pending. */
    private static void frameOfAPendingOneThatMayNotBeWritten() {
        for (int room = 0; room < 10; room++) {
            TwoWorlds x = Asm.machine();
            x.poke(120, Asm.set(0, 99));
            x.begin(120, true, 60, 96 + room);
            Asm.setAll(x, 1, 2, 3, 4, 5, 6, 7);
            x.interrupt(5);
            x.interrupt(6);
            isLocked("room for " + room, x, 96 + room, 64);
            isPartOfAFrame(x, 96 + room, room);
        }
    }

    /** "What was pushed stays": no word behind the one that is refused is written, though it could be. */
    private static void frameWithAHole() {
        for (int hole = 0; hole < 10; hole++) {
            TwoWorlds x = Asm.machine();
            x.region(2, 179 - hole, 179 - hole, 1 + hole % 2);
            x.poke(120, Asm.UNKNOWN);
            x.begin(120, true, 60, 180);
            Asm.setAll(x, 1, 2, 3, 4, 5, 6, 7);
            isLocked("hole at " + hole, x, 180, 0);
            isPartOfAFrame(x, 180, hole);
        }
    }

    /** "LINK becomes 65408 + 16 * (ACTIVE) + (1 if the present world is closed)." */
    private static void linkOfATaking() {
        int[] actives = {2, 3, 4, 5, 6};
        for (int active : actives) {
            TwoWorlds x = Asm.handling(active);
            x.poke(201, Asm.UNKNOWN);
            x.run(1);
            Check.same("closed in " + active, x.register(6), 65408 + 16 * active + 1);
            Check.same("mark", x.word(40), 1000 + active);
            x = Asm.handling(active);
            x.poke(201, Asm.out(0));
            x.set(0, 120);
            x.poke(120, Asm.UNKNOWN);
            x.run(2);
            Check.same("open in " + active, x.register(6), 65408 + 16 * active);
            Check.same("mark", x.word(170), 1000 + active);
        }
        TwoWorlds x = Asm.closed(Asm.UNKNOWN);
        x.run(1);
        Check.same("closed in none", x.register(6), 65409);
        x = Asm.open(Asm.UNKNOWN);
        x.run(1);
        Check.same("open in none", x.register(6), 65408);
    }

    private static TwoWorlds takenWithZero(boolean open, int closed) {
        TwoWorlds x = open ? Asm.open(Asm.sub(0, 0, 0)) : Asm.closed(Asm.sub(0, 0, 0));
        x.settings(true, closed, 0, 20);
        Asm.put(x, 85, Asm.GATE);
        Asm.put(x, 115, Asm.GATE);
        x.run(1);
        Asm.setAll(x, 1, 2, 3, 4, 5, 6, 7);
        x.interrupt(5);
        x.run(1);
        return x;
    }

    /** "If the present world is closed and that of e open, R0 .. R5 become 0 and ZERO is cleared." */
    private static void clearedFromClosedToOpen() {
        TwoWorlds x = takenWithZero(false, 11);
        Check.registers("nothing closed is left", x, 0, 0, 0, 0, 0, 0, 0, 65409, 116, 50, 180, 0, 1, 5, 0, 0, 5);
        Check.words("but in the frame", x, 50, 1000, 6, 5, 4, 3, 2, 1, 7, 1, 21);
    }

    /** Only then. */
    private static void notClearedOtherwise() {
        Check.registers("closed to closed", takenWithZero(false, 4), 0,
            1, 2, 3, 4, 5, 6, 65409, 86, 50, 180, 1, 0, 5, 0, 0, 5);
        Check.registers("open to closed", takenWithZero(true, 4), 0,
            1, 2, 3, 4, 5, 6, 65408, 86, 60, 170, 1, 0, 5, 0, 0, 5);
        Check.registers("open to open", takenWithZero(true, 11), 0,
            1, 2, 3, 4, 5, 6, 65408, 116, 60, 170, 1, 1, 5, 0, 0, 5);
    }

    /** "PC the vector % 256" */
    private static void vectorMod256() {
        int[] vectors = {0, 255, 256, 511, 65280, 65535};
        for (int vector : vectors) {
            TwoWorlds x = Asm.closed(Asm.UNKNOWN);
            x.poke(1, vector);
            x.run(1);
            Check.same("vector " + vector, x.register(Asm.PC), vector % 256);
        }
    }

    /** ".. (read whatever it is)": open, closed and gates, for either world, from either world. */
    private static void vectorOfAnyKind() {
        int[] bases = {4, 8, 14};
        for (int base : bases) {
            for (int way = 0; way < 4; way++) {
                boolean open = (way & 1) == 1;
                boolean toOpen = (way & 2) == 2;
                TwoWorlds x = open ? Asm.open(Asm.GATE) : Asm.closed(Asm.GATE);
                x.settings(true, toOpen ? 0 : 15, base, base);
                x.poke(8 * base + 4, toOpen ? 130 : 30);
                x.interrupt(4);
                x.run(1);
                Check.registers("vector at " + (8 * base + 4), x, Asm.PC,
                    toOpen ? 131 : 31, open ? 60 : 50, open ? 170 : 180, 0, toOpen ? 1 : 0, 4, 0, 0, 4);
            }
        }
    }

    /** The frame is pushed before the vector is read. */
    private static void vectorUnderTheFrame() {
        TwoWorlds x = Asm.closed(Asm.UNKNOWN);
        x.set(5, 256 + 99);
        x.begin(20, false, 10, 180);
        x.run(1);
        Check.same("R5 is the vector", x.register(Asm.PC), 99);
    }

    /** A machine whose RETURN is an END by this LINK, its frame on the stack of the world that LINK says. */
    private static TwoWorlds ending(int link, int... frame) {
        TwoWorlds x = Asm.handling(3);
        x.poke(201, Asm.RETURN);
        Asm.put(x, (link & 1) == 1 ? 50 : 180, frame);
        x.set(6, link);
        return x;
    }

    private static int mark(int link) {
        return 1000 + (link - 65408) / 16;
    }

    private static void isBreach(String what, TwoWorlds x) {
        x.run(1);
        Check.registers(what, x, Asm.LINK, 65408 + 49, 82, 40, 180, 0, 0, 2, 0, 0, 2);
        Check.same(what + ": its return", x.word(49), 201);
    }

    /** "65408 to 65519, when ACTIVE is not 0: an END.": every one of them, and none beside them. */
    private static void endBounds() {
        for (int link = 65408; link <= 65519; link++) {
            TwoWorlds x = ending(link, mark(link), 6, 5, 4, 3, 2, 1, 7, 0, 33);
            Check.same("a step", x.run(1), 1);
            boolean closed = (link & 1) == 1;
            Check.registers("END by " + link, x, 0, 1, 2, 3, 4, 5, 6, 7, 33,
                closed ? 60 : 50, closed ? 180 : 190, 0, closed ? 0 : 1, (link - 65408) / 16, 0, 0, 3);
        }
        TwoWorlds x = ending(65407, 999, 6, 5, 4, 3, 2, 1, 7, 0, 33);
        x.run(1);
        Check.registers("65407 is none", x, Asm.LINK, 65407, 127, 50, 180, 0, 1, 3, 0, 0, 3);
        isBreach("65520 is none", ending(65520, 1007, 6, 5, 4, 3, 2, 1, 7, 0, 33));
        isBreach("65521 is none", ending(65521, 1007, 6, 5, 4, 3, 2, 1, 7, 0, 33));
    }

    /** "Bit 0 says the world": the handler may be in the other one. */
    private static void endWorld() {
        for (int way = 0; way < 4; way++) {
            boolean fromOpen = (way & 1) == 1;
            boolean toClosed = (way & 2) == 2;
            TwoWorlds x = Asm.handling(3);
            Asm.put(x, 201, fromOpen ? Asm.out(0) : Asm.go(130));
            Asm.put(x, 130, Asm.RETURN);
            if (!fromOpen) {
                x.region(1, 131, 191, 1);
            }
            x.set(0, 130);
            x.run(1);
            Asm.put(x, toClosed ? 50 : 180, 1000, 6, 5, 4, 3, 2, 1, 7, 1, 33);
            x.set(6, toClosed ? 65409 : 65408);
            x.run(1);
            Check.registers("END " + way, x, 0, 1, 2, 3, 4, 5, 6, 7, 33,
                toClosed ? 60 : 50, toClosed ? 180 : 190, 1, toClosed ? 0 : 1, 0, 0, 0, 3);
        }
    }

    /** "Bits 4 .. 6 what is to be ACTIVE"; "ACTIVE is as said." */
    private static void endActive() {
        for (int active = 0; active <= 6; active++) {
            TwoWorlds x = ending(65409 + 16 * active, 1000 + active, 0, 0, 0, 0, 0, 0, 0, 0, 33);
            x.run(1);
            Check.registers("to be active: " + active, x, Asm.PC, 33, 60, 180, 0, 0, active, 0, 0, 3);
        }
    }

    /** "(the others do not matter)": bits 1 .. 3. */
    private static void endOtherBits() {
        for (int bits = 0; bits < 16; bits += 2) {
            TwoWorlds x = ending(65409 + 80 + bits, 1005, 0, 0, 0, 0, 0, 0, 0, 0, 33);
            x.run(1);
            Check.registers("with " + bits, x, Asm.PC, 33, 60, 180, 0, 0, 5, 0, 0, 3);
        }
    }

    /** "The first has to be 1000 + what is to be active, otherwise it is a breach" */
    private static void endMark() {
        for (int active = 0; active <= 6; active++) {
            int[] wrong = {0, active, 999 + active, 1001 + active, 4096, 65535};
            for (int first : wrong) {
                isBreach("closed mark " + first,
                    ending(65409 + 16 * active, first, 1000 + active, 0, 0, 0, 0, 0, 0, 0, 33));
                isBreach("open mark " + first,
                    ending(65408 + 16 * active, first, 1000 + active, 0, 0, 0, 0, 0, 0, 0, 33));
            }
        }
    }

    /** "R5 .. R0, LINK, ZERO .. and PC .. are the others, in the order in which they come" */
    private static void endOrder() {
        TwoWorlds x = ending(65409, 1000, 65535, 64, 63, 62, 61, 60, 65409, 1, 33);
        x.run(1);
        Check.registers("END", x, 0, 60, 61, 62, 63, 64, 65535, 65409, 33, 60, 180, 1, 0, 0, 0, 0, 3);
    }

    /** "ZERO (set if it is not 0)" */
    private static void endZero() {
        int[] values = {0, 1, 2, 256, 32768, 65535};
        for (int v : values) {
            TwoWorlds x = ending(65409, 1000, 0, 0, 0, 0, 0, 0, 0, v, 33);
            x.run(1);
            Check.same("ZERO from " + v, x.register(Asm.ZERO), v == 0 ? 0 : 1);
        }
        TwoWorlds x = ending(65409, 1000, 0, 0, 0, 0, 0, 0, 0, 0, 33);
        Asm.put(x, 201, Asm.sub(0, 0, 0), Asm.RETURN);
        x.run(2);
        Check.registers("cleared if it is 0", x, Asm.PC, 33, 60, 180, 0, 0, 0, 0, 0, 3);
    }

    /** "PC (% 256)" */
    private static void endPc() {
        int[] values = {0, 255, 256, 257, 65535};
        for (int v : values) {
            TwoWorlds x = ending(65409, 1000, 0, 0, 0, 0, 0, 0, 0, 0, v);
            x.run(1);
            Check.same("PC from " + v, x.register(Asm.PC), v % 256);
        }
    }

    /** Ten words are popped: their pointer wraps, and so do their addresses. */
    private static void endWrapsRound() {
        int[][] pointers = {{246, 256}, {65526, 0}, {65530, 4}, {65535, 9}, {250, 260}};
        for (int[] p : pointers) {
            TwoWorlds x = Asm.closed(Asm.UNKNOWN);
            x.settings(true, 0, 4, 20);
            x.poke(33, 40);
            x.poke(40, Asm.RETURN);
            x.begin(20, false, p[1], 180);
            x.run(1);
            Check.same("down to " + p[0], x.register(Asm.CLOSED_STACK), p[0]);
            x.run(1);
            Check.registers("and up to " + p[1], x, Asm.LINK, 0, 20, p[1], 180, 0, 0, 0, 0, 0, 1);
        }
    }

    /** "A word that may not be read is a breach.": each of the ten. */
    private static void endOfAWordThatMayNotBeRead() {
        for (int i = 0; i < 10; i++) {
            for (int kind = 1; kind <= 2; kind++) {
                TwoWorlds x = ending(65408, 1000, 6, 5, 4, 3, 2, 1, 7, 1, 33);
                x.region(2, 180 + i, 180 + i, kind);
                isBreach("closed word " + i, x);
            }
            TwoWorlds x = ending(65408, 1000, 6, 5, 4, 3, 2, 1, 7, 1, 33);
            x.region(1, 96, 179 + i, 1);
            isBreach("open words end before " + i, x);
            x = ending(65408, 1000, 6, 5, 4, 3, 2, 1, 7, 1, 33);
            x.region(1, 96, 179 + i, 1);
            x.region(2, 180 + i, 191, 2);
            isBreach("gates from " + i, x);
        }
        TwoWorlds x = ending(65408, 1000, 6, 5, 4, 3, 2, 1, 7, 1, 33);
        x.region(1, 180, 189, 1);
        x.run(1);
        Check.registers("just the ten", x, 0, 1, 2, 3, 4, 5, 6, 7, 33, 50, 190, 1, 1, 0, 0, 0, 3);
    }

    /** In the closed world every word may be read. */
    private static void endInTheClosedWorldReadsAll() {
        for (int kind = 0; kind <= 2; kind++) {
            TwoWorlds x = ending(65409, 1000, 6, 5, 4, 3, 2, 1, 7, 1, 33);
            x.region(2, 50, 59, kind);
            x.run(1);
            Check.registers("kind " + kind, x, 0, 1, 2, 3, 4, 5, 6, 7, 33, 60, 180, 1, 0, 0, 0, 0, 3);
        }
    }

    /** "Of the PENDING exceptions the least e": whichever were asked for first. */
    private static void leastOfThePending() {
        for (int set = 1; set < 16; set++) {
            TwoWorlds x = Asm.closed(Asm.GATE);
            x.settings(true, 15, 0, 20);
            int least = 0;
            for (int e = 6; e >= 3; e--) {
                if ((set >> e - 3 & 1) == 1) {
                    x.interrupt(e);
                    least = e;
                }
            }
            x.poke(80 + least, Asm.GATE);
            x.run(1);
            Check.registers("of " + set, x, Asm.PC, 81 + least, 50, 180, 0, 0, least, 0, set * 8 - (1 << least), least);
        }
    }

    /** ".. that is less than ACTIVE": not one that is as great or greater. */
    private static void lessThanActive() {
        for (int active = 3; active <= 6; active++) {
            for (int e = 3; e <= 6; e++) {
                TwoWorlds x = Asm.handling(active);
                x.poke(201, Asm.GATE);
                x.poke(e, 210);
                x.poke(210, Asm.GATE);
                x.interrupt(e);
                x.run(1);
                if (e < active) {
                    Check.registers(e + " in " + active, x, Asm.LINK,
                        65409 + 16 * active, 211, 40, 180, 0, 0, e, 0, 0, e);
                } else {
                    Check.registers(e + " waits for " + active, x, Asm.LINK,
                        65409, 202, 50, 180, 0, 0, active, 0, 1 << e, active);
                }
            }
        }
    }

    /** ".. or any if ACTIVE is 0": also when it has become 0 by an END. */
    private static void anyIfNothingIsActive() {
        for (int e = 3; e <= 6; e++) {
            TwoWorlds x = Asm.handling(3);
            x.poke(201, Asm.RETURN);
            x.interrupt(e);
            x.run(1);
            Check.registers(e + " waits", x, Asm.PC, 20, 60, 180, 0, 0, 0, 0, 1 << e, 3);
            x.poke(e, 210);
            x.poke(210, Asm.GATE);
            x.run(1);
            Check.registers(e + " is taken", x, Asm.PC, 211, 50, 180, 0, 0, e, 0, 0, e);
        }
    }

    /** None of 3 .. 6 is less than 1 or 2. */
    private static void noneInOneAndTwo() {
        for (int active = 1; active <= 2; active++) {
            TwoWorlds x = Asm.handling(active);
            Asm.put(x, 201, Asm.GATE);
            for (int e = 3; e <= 6; e++) {
                x.interrupt(e);
            }
            x.run(1);
            Check.registers("all wait for " + active, x, Asm.LINK,
                65409, 202, 50, 180, 0, 0, active, 0, 120, active);
        }
    }

    /** ".. is taken with PC as return, and is not pending any more" */
    private static void takenAndNotPendingAnyMore() {
        int[] places = {0, 20, 255};
        for (int pc : places) {
            TwoWorlds x = Asm.machine();
            x.settings(true, 15, 4, 20);
            x.poke(35, 40);
            x.begin(pc, false, 60, 180);
            x.interrupt(3);
            x.run(1);
            Check.registers("taken at " + pc, x, Asm.PC, 41, 50, 180, 0, 0, 3, 0, 0, 3);
            Check.same("return to " + pc, x.word(59), pc);
        }
    }

    /** One that is asked for while it is handled is taken again, once. */
    private static void pendingAgain() {
        TwoWorlds x = Asm.handling(5);
        x.poke(201, Asm.RETURN);
        x.poke(85, Asm.RETURN);
        x.interrupt(5);
        x.interrupt(5);
        x.run(1);
        Check.registers("ended", x, Asm.PC, 20, 60, 180, 0, 0, 0, 0, 32, 5);
        x.run(1);
        Check.registers("taken and ended again", x, Asm.PC, 20, 60, 180, 0, 0, 0, 0, 0, 5);
        x.run(1);
        Check.registers("then the instruction", x, Asm.PC, 21, 60, 180, 0, 0, 0, 0, 0, 5);
    }

    /** "Then the instruction at the new PC follows in the same step." */
    private static void instructionInTheSameStep() {
        TwoWorlds x = Asm.closed(Asm.set(0, 1));
        x.settings(true, 15, 0, 20);
        x.poke(83, Asm.set(0, 2));
        x.interrupt(3);
        Check.same("one step", x.run(1), 1);
        Check.registers("and one instruction", x, 0, 2, 0, 0, 0, 0, 0, 65409, 84, 50, 180, 0, 0, 3, 0, 0, 3);
        x = Asm.closed(Asm.set(0, 1));
        x.settings(true, 15, 0, 20);
        x.poke(83, Asm.STOP);
        x.interrupt(3);
        Check.same("a STOP there is the last", x.run(200), 1);
        Check.registers("still", x, Asm.PC, 84, 50, 180, 0, 0, 3, 1, 0, 3);
        x = Asm.closed(Asm.GATE);
        x.settings(true, 15, 0, 20);
        x.poke(85, Asm.raise(0));
        x.poke(83, Asm.GATE);
        x.interrupt(5);
        x.run(1);
        Check.registers("what it raises waits for the next step", x, Asm.PC, 86, 50, 180, 0, 0, 5, 0, 8, 5);
        x.run(1);
        Check.registers("and is taken there", x, Asm.PC, 84, 40, 180, 0, 0, 3, 0, 0, 3);
    }

    /** "Before each instruction": its word is not fetched before the taking has ended. */
    private static void takenBeforeAnInstructionThatMayNotBeFetched() {
        TwoWorlds x = Asm.open(Asm.GATE);
        x.settings(true, 15, 0, 20);
        x.poke(83, Asm.RETURN);
        x.begin(30, true, 60, 180);
        x.interrupt(3);
        x.run(1);
        Check.registers("taken and ended", x, Asm.PC, 30, 60, 180, 0, 1, 0, 0, 0, 3);
        x.run(1);
        Check.registers("then the breach", x, Asm.PC, 82, 60, 170, 0, 0, 2, 0, 0, 2);
    }
}
