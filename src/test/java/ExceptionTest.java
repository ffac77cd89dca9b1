/** Promise 9: the taking of exceptions. */
public final class ExceptionTest {
    public static void main(String[] args) {
        frames();
        nothingClosedIsLeft();
        vectorIsReadWhateverItIs();
        locks();
        openCodeLearnsNothing();
        Check.end();
    }

    private static TwoWorlds taken(boolean open, int closed) {
        TwoWorlds x = open ? Asm.open(Asm.sub(0, 0, 0)) : Asm.closed(Asm.sub(0, 0, 0));
        x.settings(true, closed, 0, 20);
        Asm.put(x, 84, Asm.GATE);
        Asm.put(x, 114, Asm.GATE);
        x.run(1);
        Asm.setAll(x, 11, 12, 13, 14, 15, 16, 17);
        x.interrupt(4);
        Check.same("a step", x.run(1), 1);
        return x;
    }

    private static void frames() {
        TwoWorlds x = taken(false, 15);
        Check.registers("closed to closed", x, 0, 11, 12, 13, 14, 15, 16, 65409, 85, 50, 180, 1, 0, 4, 0, 0, 4);
        Check.words("frame", x, 49, 0, 1000, 16, 15, 14, 13, 12, 11, 17, 1, 21, 0);
        x = taken(true, 15);
        Check.registers("open to closed", x, 0, 11, 12, 13, 14, 15, 16, 65408, 85, 60, 170, 1, 0, 4, 0, 0, 4);
        Check.words("frame", x, 169, 0, 1000, 16, 15, 14, 13, 12, 11, 17, 1, 101, 0);
        x = taken(true, 0);
        Check.registers("open to open", x, 0, 11, 12, 13, 14, 15, 16, 65408, 115, 60, 170, 1, 1, 4, 0, 0, 4);
        Check.words("frame", x, 169, 0, 1000, 16, 15, 14, 13, 12, 11, 17, 1, 101, 0);
    }

    private static void nothingClosedIsLeft() {
        TwoWorlds x = taken(false, 0);
        Check.registers("closed to open", x, 0, 0, 0, 0, 0, 0, 0, 65409, 115, 50, 180, 0, 1, 4, 0, 0, 4);
        Check.words("frame", x, 49, 0, 1000, 16, 15, 14, 13, 12, 11, 17, 1, 21, 0);
    }

    private static void vectorIsReadWhateverItIs() {
        TwoWorlds x = Asm.open(Asm.GATE);
        x.settings(true, 0, 0, 30);
        x.poke(243, 512 + 150);
        x.interrupt(3);
        x.run(1);
        Check.registers("an open exception with a closed vector", x, 7, 151, 60, 170, 0, 1, 3, 0, 0, 3);
        x = Asm.open(Asm.set(7, 0));
        x.settings(true, 0, 20, 20);
        x.poke(161, 40);
        x.run(1);
        Check.registers("a closed exception with an open vector", x, 7, 40, 60, 170, 0, 0, 1, 0, 0, 1);
        x = Asm.closed(Asm.set(7, 0));
        x.begin(20, false, 2, 180);
        x.run(1);
        Check.same("the frame stands before the vector is read", x.register(Asm.PC), 20);
    }

    private static void locks() {
        for (int room = 0; room < 10; room++) {
            TwoWorlds x = Asm.open(Asm.load(0, 0, 0));
            x.poke(120, Asm.load(0, 0, 0));
            x.begin(120, true, 60, 96 + room);
            Asm.setAll(x, 1, 2, 3, 4, 5, 6, 7);
            Check.same("room for " + room, x.run(9), 1);
            Check.registers("locked", x, 0, 1, 2, 3, 4, 5, 6, 7, 120, 60, 96 + room, 0, 1, 0, 2, 0, 0);
            int[] frame = {120, 0, 7, 1, 2, 3, 4, 5, 6};
            for (int i = 0; i < room; i++) {
                Check.same("what was pushed stays", x.word(95 + room - i), frame[i]);
            }
            Check.same("no closed word is written", x.word(95), 0);
        }
        TwoWorlds x = Asm.open(Asm.GATE);
        x.poke(120, Asm.load(0, 0, 0));
        x.begin(120, true, 60, 106);
        x.run(1);
        Check.registers("room for all", x, 7, 82, 60, 96, 0, 0, 2, 0, 0, 2);
        pushingStopsAtTheFirst();
    }

    private static void pushingStopsAtTheFirst() {
        TwoWorlds x = Asm.open(Asm.load(0, 0, 0));
        x.region(2, 175, 175, 2);
        Asm.setAll(x, 1, 2, 3, 4, 5, 6, 7);
        x.run(1);
        Check.registers("locked in the middle", x, 7, 100, 60, 180, 0, 1, 0, 2, 0, 0);
        Check.words("no word after the refused one", x, 170, 0, 0, 0, 0, 0, 0, 1, 7, 0, 100);
    }

    /** Two machines that differ only in what is closed look the same to open code, whatever it does. */
    private static void openCodeLearnsNothing() {
        java.util.Random random = new java.util.Random(5);
        for (int round = 0; round < 300; round++) {
            TwoWorlds x = Asm.machine();
            TwoWorlds y = Asm.machine();
            for (int at = 96; at < 160; at++) {
                int w = random.nextInt(65536);
                x.poke(at, w);
                y.poke(at, w);
            }
            for (int at = 192; at < 256; at++) {
                x.poke(at, random.nextInt(65536));
                y.poke(at, random.nextInt(65536));
            }
            x.begin(100, true, 60, 190);
            y.begin(100, true, 60, 190);
            int steps = 0;
            while (steps < 100 && x.register(Asm.OPEN) == 1 && x.run(1) == 1) {
                Check.same("the other's step", y.run(1), 1);
                steps++;
            }
            for (int k = 0; k < 16; k++) {
                Check.same("register(" + k + ") of the other", y.register(k), x.register(k));
            }
        }
    }
}
