/** Words of instructions, and machines to try them on. */
final class Asm {
    static final int RETURN = 13 << 12;
    static final int GATE = 10 << 12;
    static final int STOP = 15 << 12;
    /** One of the unknown instructions: SET R7. */
    static final int UNKNOWN = 7 << 9;
    static final int LINK = 6;

    static final int PC = 7;
    static final int CLOSED_STACK = 8;
    static final int OPEN_STACK = 9;
    static final int ZERO = 10;
    static final int OPEN = 11;
    static final int ACTIVE = 12;
    static final int STATE = 13;
    static final int PENDING = 14;
    static final int LAST = 15;

    private Asm() {
    }

    static int op(int op, int a, int b, int c) {
        return op << 12 | a << 9 | b << 6 | c << 3;
    }

    static int set(int a, int m) {
        return a << 9 | m;
    }

    static int add(int a, int b, int c) {
        return op(1, a, b, c);
    }

    static int sub(int a, int b, int c) {
        return op(2, a, b, c);
    }

    static int load(int a, int b, int n) {
        return op(3, a, b, 0) | n;
    }

    static int store(int a, int b, int n) {
        return op(4, a, b, 0) | n;
    }

    static int push(int a) {
        return op(5, a, 0, 0);
    }

    static int pop(int a) {
        return op(6, a, 0, 0);
    }

    static int go(int m) {
        return 7 << 12 | m;
    }

    static int goZero(int m) {
        return 8 << 12 | m;
    }

    static int call(int b) {
        return op(9, 0, b, 0);
    }

    static int out(int b) {
        return op(11, 0, b, 0);
    }

    static int outCall(int b) {
        return op(12, 0, b, 0);
    }

    static int raise(int c) {
        return op(14, 0, 0, c);
    }

    static void put(TwoWorlds x, int address, int... words) {
        for (int i = 0; i < words.length; i++) {
            x.poke(address + i, words[i]);
        }
    }

    static void setAll(TwoWorlds x, int... values) {
        for (int i = 0; i < values.length; i++) {
            x.set(i, values[i]);
        }
    }

    /**
     * Gates at 64 .. 71, open words at 96 .. 191, all else closed; bases 0 and 20 (open vectors from 160 on);
     * the vectors of 1 .. 6 lead to 81 .. 86 in the closed and to 111 .. 116 in the open world.
     */
    static TwoWorlds machine() {
        TwoWorlds x = new TwoWorlds();
        x.region(0, 64, 71, 2);
        x.region(1, 96, 191, 1);
        x.settings(true, 0, 0, 20);
        for (int e = 1; e <= 6; e++) {
            x.poke(e, 80 + e);
            x.poke(160 + e, 110 + e);
        }
        return x;
    }

    /** {@link #machine()} at an instruction of the closed world (at 20), its stacks at 60 and 180. */
    static TwoWorlds closed(int... program) {
        TwoWorlds x = machine();
        put(x, 20, program);
        x.begin(20, false, 60, 180);
        return x;
    }

    /** {@link #machine()} at an instruction of the open world (at 100), its stacks at 60 and 180. */
    static TwoWorlds open(int... program) {
        TwoWorlds x = machine();
        put(x, 100, program);
        x.begin(100, true, 60, 180);
        return x;
    }

    /**
     * {@link #machine()} in the closed handler of an exception, whose next instruction is at 201; its stacks are at
     * 50 and 180, a frame (R0 .. R6 were 0, return to 20, or 100 for 2) is on the closed one; 3 .. 6 are closed.
     */
    static TwoWorlds handling(int e) {
        TwoWorlds x = closed(e == 1 ? UNKNOWN : GATE);
        x.settings(true, 15, 0, 20);
        x.poke(200, GATE);
        x.poke(e, 200);
        if (e >= 3) {
            x.interrupt(e);
        } else {
            x.begin(e == 1 ? 20 : 100, false, 60, 180);
            x.run(1);
        }
        x.run(1);
        x.poke(e, 80 + e);
        Check.registers("handling " + e, x, LINK, 65409, 201, 50, 180, 0, 0, e, 0, 0, e);
        return x;
    }
}
