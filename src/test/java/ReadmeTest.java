/** The example of README.md, line by line. */
public final class ReadmeTest {
    public static void main(String[] args) {
        TwoWorlds x = new TwoWorlds();
        x.region(0, 64, 71, 2);
        x.region(1, 96, 191, 1);
        x.poke(64, 40960);
        x.poke(65, 4096);
        x.poke(66, 53248);
        x.poke(96, 21);
        x.poke(97, 576);
        x.poke(98, 36928);
        x.begin(96, true, 60, 180);
        Check.same("run(4)", x.run(4), 4);
        Check.same("behind the gate: register(11)", x.register(11), 0);
        Check.same("run(2)", x.run(2), 2);
        Check.same("register(0)", x.register(0), 42);
        Check.same("register(7)", x.register(7), 99);
        Check.same("back again: register(11)", x.register(11), 1);
        Check.end();
    }
}
