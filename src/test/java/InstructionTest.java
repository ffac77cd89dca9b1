/** Promise 9: the instructions that do not change the world. */
public final class InstructionTest {
    public static void main(String[] args) {
        setAddSub();
        loadStore();
        stack();
        jumps();
        raise();
        unknown();
        unusedBitsAreFree();
        Check.end();
    }

    private static void setAddSub() {
        TwoWorlds x = Asm.closed(Asm.set(6, 511), Asm.set(0, 0), Asm.add(1, 2, 3), Asm.sub(4, 2, 3),
            Asm.sub(5, 3, 3), Asm.add(3, 3, 3), Asm.sub(2, 4, 6));
        Asm.setAll(x, 9, 9, 1, 65535, 9, 9, 9);
        Check.same("run(4)", x.run(4), 4);
        Check.registers("wraps", x, 0, 0, 0, 1, 65535, 2, 9, 511, 24, 60, 180, 0, 0);
        x.run(1);
        Check.registers("ZERO is set", x, 5, 0, 511, 25, 60, 180, 1);
        x.run(1);
        Check.registers("ADD leaves ZERO", x, 3, 65534, 2, 0, 511, 26, 60, 180, 1);
        x.run(1);
        Check.registers("ZERO is cleared", x, 2, 65536 + 2 - 511, 65534, 2, 0, 511, 27, 60, 180, 0);
    }

    private static void loadStore() {
        TwoWorlds x = Asm.closed(Asm.load(1, 0, 63), Asm.store(1, 2, 0), Asm.load(3, 3, 0), Asm.load(4, 5, 2),
            Asm.store(6, 6, 5));
        Asm.setAll(x, 137, 0, 44, 300, 0, 65535, 61440);
        x.poke(200, 12345);
        x.poke(1, 777);
        Check.same("run(5)", x.run(5), 5);
        Check.registers("loaded", x, 0, 137, 12345, 44, 12345, 777, 65535, 61440);
        Check.same("R3 was at 300 % 256", x.word(44), 12345);
        Check.same("LOAD writes nothing", x.word(12345 % 256), 0);
        Check.same("stored by itself", x.word(61445 % 256), 61440);
    }

    private static void stack() {
        TwoWorlds x = Asm.closed(Asm.push(0), Asm.push(6), Asm.pop(1), Asm.pop(2), Asm.pop(3));
        Asm.setAll(x, 50, 0, 0, 0, 0, 0, 66);
        x.poke(60, 1234);
        x.run(2);
        Check.words("pushed", x, 58, 66, 50, 1234);
        Check.registers("pointers", x, 8, 58, 180);
        x.run(3);
        Check.registers("popped", x, 0, 50, 66, 50, 1234, 0, 0, 66, 25, 61, 180);
        x = Asm.closed(Asm.push(0), Asm.pop(1));
        x.set(0, 8);
        x.begin(20, false, 0, 180);
        x.run(1);
        Check.same("falls below 0", x.register(Asm.CLOSED_STACK), 65535);
        Check.same("to 255", x.word(255), 8);
        x.run(1);
        Check.same("grows to 65536", x.register(Asm.CLOSED_STACK), 0);
        Check.same("R1", x.register(1), 8);
        x = Asm.open(Asm.push(0), Asm.push(1), Asm.pop(2));
        Asm.setAll(x, 21, 22);
        x.run(3);
        Check.words("of the open world", x, 178, 22, 21);
        Check.registers("of the open world", x, 0, 21, 22, 22, 0, 0, 0, 0, 103, 60, 179);
    }

    private static void jumps() {
        TwoWorlds x = Asm.closed(Asm.go(256 + 30));
        Asm.put(x, 30, Asm.goZero(40), Asm.sub(0, 0, 0), Asm.goZero(511), Asm.GATE);
        Asm.put(x, 255, Asm.call(3));
        x.run(1);
        Check.same("GO m % 256", x.register(Asm.PC), 30);
        x.run(1);
        Check.same("GO ZERO when it is clear", x.register(Asm.PC), 31);
        x.run(2);
        Check.same("GO ZERO when it is set", x.register(Asm.PC), 255);
        x.set(3, 256 + 33);
        x.set(6, 9);
        x.run(1);
        Check.registers("CALL", x, 6, 0, 33);
        x.run(1);
        Check.registers("GATE in the closed world", x, 0, 0, 0, 0, 289, 0, 0, 0, 34, 60, 180, 1, 0, 0, 0, 0, 0);
        x = Asm.closed(Asm.call(6));
        x.set(6, 77);
        x.run(1);
        Check.registers("CALL by LINK", x, 6, 21, 77);
        x = Asm.open(Asm.GATE);
        x.run(1);
        Check.registers("GATE at an open word", x, 6, 0, 101, 60, 180, 0, 1);
    }

    private static void raise() {
        for (int c = 0; c < 8; c++) {
            TwoWorlds x = Asm.closed(Asm.raise(c), Asm.GATE);
            x.run(1);
            Check.registers("RAISE " + c, x, 7, 21, 60, 180, 0, 0, 0, 0, 1 << (3 + c % 4), 0);
            x.run(1);
            Check.registers("taken before the next", x, 12, 3 + c % 4, 0, 0, 3 + c % 4);
            Check.same("its return", x.word(59), 21);
        }
        TwoWorlds x = Asm.open(Asm.raise(3));
        x.run(1);
        Check.registers("RAISE in the open world", x, 7, 101, 60, 180, 0, 1, 0, 0, 64, 0);
        x = Asm.closed(Asm.set(7, 0));
        Asm.put(x, 81, Asm.raise(2), Asm.raise(6));
        Check.same("run(3)", x.run(3), 3);
        Check.registers("what is pending stays so", x, 12, 1, 0, 32, 1);
    }

    private static void unknown() {
        for (int op = 0; op < 16; op++) {
            boolean a = op <= 6;
            boolean b = op >= 1 && op <= 4 || op == 9 || op == 11 || op == 12;
            boolean c = op == 1 || op == 2;
            isUnknown(Asm.op(op, 7, 0, 0), a);
            isUnknown(Asm.op(op, 0, 7, 0), b);
            isUnknown(Asm.op(op, 0, 0, 7), c);
            isUnknown(Asm.op(op, 6, 6, 6), false);
        }
        int[] closedOnly = {Asm.out(0), Asm.outCall(0), Asm.STOP};
        for (int w : closedOnly) {
            TwoWorlds x = Asm.open(w);
            x.set(0, 105);
            x.run(1);
            Check.registers("unknown in the open world", x, 7, 81, 60, 170, 0, 0, 1, 0, 0, 1);
            Check.same("its return", x.word(179), 100);
        }
        TwoWorlds x = Asm.open(Asm.load(7, 0, 0));
        x.run(1);
        Check.same("unknown, though it would be a breach too", x.register(Asm.LAST), 1);
    }

    private static void isUnknown(int w, boolean due) {
        TwoWorlds x = Asm.closed(w);
        Asm.setAll(x, 150, 150, 150, 150, 150, 150, 150);
        x.run(1);
        Check.same("unknown " + w, x.register(Asm.LAST), due ? 1 : 0);
        Check.same("pc after " + w + " if unknown", due ? x.register(Asm.PC) : 81, 81);
    }

    private static void unusedBitsAreFree() {
        TwoWorlds x = Asm.closed(Asm.push(1) | 511, Asm.pop(2) | 511, Asm.add(3, 1, 2) | 7, Asm.GATE | 4095,
            Asm.go(24) | 7 << 9 | 1, Asm.raise(0) | 7 | 63 << 6, Asm.STOP | 4095);
        x.set(1, 5);
        Check.same("run(5)", x.run(5), 5);
        Check.registers("as without them", x, 1, 5, 5, 10, 0, 0, 0, 25, 60);
    }
}
