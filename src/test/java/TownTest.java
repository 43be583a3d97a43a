/** Promises 6 to 8: ward, horse, sound. */
public final class TownTest {
    public static void main(String[] args) {
        wards();
        horses();
        soundness();
        Due.end();
    }

    private static void wards() {
        RopeRace x = new RopeRace();
        for (int i = 0; i < 17; i++) {
            Due.is("ward " + i, x.ward(), i);
            Due.is("count(3)", x.count(3), i + 1);
        }
        Due.is("an eighteenth ward", x.ward(), -1);
        Due.is("count(3) at its end", x.count(3), 17);
        Due.is("look of the last", x.look(16, 4), 0);
        Due.is("look beyond it", x.look(17, 4), -1);
    }

    private static void horses() {
        RopeRace x = new RopeRace();
        Due.is("mark -1", x.horse(-1), -1);
        Due.is("mark 1000", x.horse(1000), -1);
        Due.is("count(4)", x.count(4), 0);
        for (int i = 0; i < 16; i++) {
            Due.is("horse " + i, x.horse(i % 2 * 999), i);
            Due.is("count(4)", x.count(4), i + 1);
        }
        Due.is("a seventeenth horse", x.horse(5), -1);
        Due.is("count(4) at its end", x.count(4), 16);
    }

    private static void soundness() {
        RopeRace x = Due.town("run 2;", 2, 10, 20, 900);
        Due.is("sound(-1)", x.sound(-1, true), false);
        Due.is("sound(3)", x.sound(3, true), false);
        Due.is("sound(16)", x.sound(16, false), false);
        Due.is("sound(1, false)", x.sound(1, false), true);
        Due.is("sound(2, false)", x.sound(2, false), true);
        x.choose(0);
        Due.is("pick of one sound horse", x.pick(), -1);
        Due.is("sound(2, true)", x.sound(2, true), true);
        Due.is("pick of two", x.pick(), 890);
        Due.is("drawn(1, 0)", x.drawn(1, 0), 0);
        Due.is("drawn(1, 1)", x.drawn(1, 1), 2);
        Due.is("sound of a picked one", x.sound(2, false), true);
        Due.is("it stays picked", x.drawn(1, 1), 2);
    }
}
