/** Promises 6 to 13, in ordinary years: horses that are sound, choose, pick, lots, drawn, look. */
public final class YearTest {
    public static void main(String[] args) {
        chooseByRight();
        chooseByLot();
        chooseWithoutBarred();
        pickEven();
        pickFirstSet();
        pickSound();
        drawLots();
        Due.end();
    }

    private static void row(String what, RopeRace x, int kind, int... want) {
        for (int k = 0; k < want.length; k++) {
            Due.is(what + ": drawn(" + kind + ", " + k + ")", x.drawn(kind, k), want[k]);
        }
        Due.is(what + ": drawn(" + kind + ") behind the last", x.drawn(kind, want.length), -1);
    }

    private static void runYear(RopeRace x) {
        x.pick();
        x.lots(1);
        Due.is("drop", x.drop(1), 0);
        x.go(400);
        x.next();
    }

    private static void chooseByRight() {
        RopeRace x = Due.town("run 2;", 5, 1, 2);
        x.choose(1);
        row("never: the lesser numbers", x, 0, 0, 1);
        runYear(x);
        x.choose(1);
        row("never ahead of a year ago", x, 0, 2, 3);
        Due.is("look(0, 1)", x.look(0, 1), 0);
        x.next();
        x.choose(1);
        row("chosen without a race has not run", x, 0, 2, 3);
        runYear(x);
        x.choose(1);
        row("never, then longest ago", x, 0, 0, 4);
        runYear(x);
        x.choose(1);
        row("longest ago", x, 0, 1, 2);
    }

    private static void chooseByLot() {
        // run 3: one by lot, among wards 2 .. 5; run 6 of 9: two by lot, among 4 .. 8.
        for (int k = 0; k < 4; k++) {
            RopeRace x = Due.town("run 3;", 6);
            Due.is("choose", x.choose(Due.seedOf(4, k)), 3);
            row("lot " + k, x, 0, 0, 1, 2 + k);
        }
        RopeRace x = Due.town("run 6;", 9);
        Due.is("choose", x.choose(Due.seedOf(5, 3, 4, 0)), 6);
        row("two by lot", x, 0, 0, 1, 2, 3, 4, 7);
        x = Due.town("run 5;", 5);
        Due.is("choose", x.choose(7), 5);
        row("all run", x, 0, 0, 1, 2, 3, 4);
    }

    private static void chooseWithoutBarred() {
        RopeRace x = Due.town("run 2; bar 1;", 3, 1, 2);
        x.choose(1);
        x.pick();
        x.lots(1);
        x.drop(1);
        x.go(400);
        x.punish(0);
        x.next();
        x.choose(1);
        row("ward 0 is barred", x, 0, 1, 2);
        runYear(x);
        x.choose(1);
        row("ward 0 is barred no more", x, 0, 0, 1);

        RopeRace y = Due.town("run 3; bar 9;", 3, 1, 2, 3);
        y.choose(1);
        y.pick();
        y.lots(1);
        y.drop(1);
        y.go(400);
        y.punish(1);
        y.next();
        Due.is("run is as many as aren't barred", y.choose(1), 2);
        row("those two", y, 0, 0, 2);
        y.pick();
        y.lots(1);
        y.drop(1);
        y.go(400);
        y.punish(0);
        y.next();
        Due.is("choose with one that isn't barred", y.choose(1), -1);
        y.ward();
        Due.is("choose with another", y.choose(1), 2);
        row("ward 3 never ran", y, 0, 2, 3);
    }

    private static void pickEven() {
        RopeRace x = Due.town("run 3;", 3, 999, 100, 500, 120, 0, 510, 990, 530);
        x.choose(1);
        Due.is("pick", x.pick(), 30);
        row("pick", x, 1, 2, 5, 7);
        Due.is("pick once more", x.pick(), -1);
    }

    private static void pickFirstSet() {
        // Spans 500 .. 510, 505 .. 515 and 300 .. 310 are like ones: sets 0 1 4, 0 1 3 and 2 5 6.
        RopeRace x = Due.town("run 3;", 3, 510, 505, 302, 515, 500, 300, 310);
        x.choose(1);
        Due.is("pick", x.pick(), 10);
        row("first set", x, 1, 0, 1, 3);
        RopeRace y = Due.town("run 2;", 2, 7, 100, 50, 100, 7, 50);
        y.choose(1);
        Due.is("pick of twins", y.pick(), 0);
        row("first twins", y, 1, 0, 4);
        RopeRace z = Due.town("run 3;", 3, 5, 5, 9, 5, 5);
        z.choose(1);
        Due.is("pick of more than enough", z.pick(), 0);
        row("first three", z, 1, 0, 1, 3);
    }

    private static void pickSound() {
        RopeRace x = Due.town("run 2;", 2, 10, 20, 900);
        x.sound(1, false);
        x.choose(1);
        Due.is("pick", x.pick(), 890);
        row("pick", x, 1, 0, 2);
        x.sound(2, false);
        row("one that is sound no more stays picked", x, 1, 0, 2);
        Due.is("lots", x.lots(1), true);
        Due.is("both horses are drawn", x.look(0, 0) + x.look(1, 0), 2);
    }

    private static void drawLots() {
        // Horses 1 2 3: the third, the second left, the last; places: the second ward, the first left, the last.
        RopeRace x = Due.town("run 3;", 3, 900, 10, 11, 12);
        Due.is("lots ahead of choose", x.lots(1), false);
        x.choose(1);
        x.pick();
        Due.is("lots", x.lots(Due.seedOf(3, 2, 2, 1, 1, 0, 3, 1, 2, 0)), true);
        Due.is("look(0, 0)", x.look(0, 0), 3);
        Due.is("look(1, 0)", x.look(1, 0), 2);
        Due.is("look(2, 0)", x.look(2, 0), 1);
        row("places", x, 2, 1, 0, 2);
        Due.is("lots once more", x.lots(1), false);
        Due.is("count(1)", x.count(1), 3);
        x.next();
        Due.is("the horse is gone", x.look(0, 0), -1);
        row("no places", x, 2);
    }
}
