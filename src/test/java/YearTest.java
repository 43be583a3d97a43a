/** Promises 9 to 13: choose, pick, lots, drawn, look. */
public final class YearTest {
    public static void main(String[] args) {
        chooseRefused();
        chooseByRight();
        chooseByLot();
        chooseWithoutBarred();
        pickEven();
        pickFirstSet();
        pickRefused();
        drawLots();
        drawnBounds();
        lookBounds();
        Due.end();
    }

    private static void row(String what, RopeRace x, int kind, int... want) {
        for (int k = 0; k < want.length; k++) {
            Due.is(what + ": drawn(" + kind + ", " + k + ")", x.drawn(kind, k), want[k]);
        }
        Due.is(what + ": drawn(" + kind + ") behind the last", x.drawn(kind, want.length), -1);
    }

    private static void chooseRefused() {
        RopeRace x = new RopeRace();
        Due.is("choose without wards", x.choose(1), -1);
        x.ward();
        Due.is("choose with one", x.choose(1), -1);
        Due.is("count(1)", x.count(1), 0);
        x.ward();
        Due.is("choose with two, fewer than run", x.choose(1), 2);
        Due.is("count(1)", x.count(1), 1);
        Due.is("choose once more", x.choose(1), -1);
        x.ward();
        row("a later ward doesn't run", x, 0, 0, 1);
        x.next();
        Due.is("choose of the next year", x.choose(1), 3);
    }

    private static void runYear(RopeRace x) {
        x.pick();
        x.lots(1);
        Due.is("drop", x.drop(1), 0);
        x.go(400);
        x.next();
    }

    private static void chooseByRight() {
        RopeRace x = Due.town("run 2;", 5, 1, 2);
        x.choose(1);
        row("never: the lesser numbers", x, 0, 0, 1);
        runYear(x);
        x.choose(1);
        row("never ahead of a year ago", x, 0, 2, 3);
        Due.is("look(0, 1)", x.look(0, 1), 0);
        x.next();
        x.choose(1);
        row("chosen without a race has not run", x, 0, 2, 3);
        runYear(x);
        x.choose(1);
        row("never, then longest ago", x, 0, 0, 4);
        runYear(x);
        x.choose(1);
        row("longest ago", x, 0, 1, 2);
    }

    private static void chooseByLot() {
        // run 3: one by lot, among wards 2 .. 5; run 6 of 9: two by lot, among 4 .. 8.
        for (int k = 0; k < 4; k++) {
            RopeRace x = Due.town("run 3;", 6);
            Due.is("choose", x.choose(seedOf(4, k)), 3);
            row("lot " + k, x, 0, 0, 1, 2 + k);
        }
        RopeRace x = Due.town("run 6;", 9);
        Due.is("choose", x.choose(seedOf(5, 3, 4, 0)), 6);
        row("two by lot", x, 0, 0, 1, 2, 3, 4, 7);
        x = Due.town("run 5;", 5);
        Due.is("choose", x.choose(7), 5);
        row("all run", x, 0, 0, 1, 2, 3, 4);
    }

    /** The least seed whose draws are so: pairs of a modulus and its remainder. */
    private static int seedOf(int... draws) {
        for (int seed = 0; ; seed++) {
            int x = seed;
            boolean fits = true;
            for (int i = 0; i < draws.length && fits; i += 2) {
                x = x * 1103515245 + 12345;
                fits = (x >>> 16 & 0x7fff) % draws[i] == draws[i + 1];
            }
            if (fits) {
                return seed;
            }
        }
    }

    private static void chooseWithoutBarred() {
        RopeRace x = Due.town("run 2; bar 1;", 3, 1, 2);
        x.choose(1);
        x.pick();
        x.lots(1);
        x.drop(1);
        x.go(400);
        x.punish(0);
        x.next();
        x.choose(1);
        row("ward 0 is barred", x, 0, 1, 2);
        runYear(x);
        x.choose(1);
        row("ward 0 is barred no more", x, 0, 0, 1);

        RopeRace y = Due.town("run 3; bar 9;", 3, 1, 2, 3);
        y.choose(1);
        y.pick();
        y.lots(1);
        y.drop(1);
        y.go(400);
        y.punish(1);
        y.next();
        Due.is("run is as many as aren't barred", y.choose(1), 2);
        row("those two", y, 0, 0, 2);
        y.pick();
        y.lots(1);
        y.drop(1);
        y.go(400);
        y.punish(0);
        y.next();
        Due.is("choose with one that isn't barred", y.choose(1), -1);
        y.ward();
        Due.is("choose with another", y.choose(1), 2);
        row("ward 3 never ran", y, 0, 2, 3);
    }

    private static void pickEven() {
        RopeRace x = Due.town("run 3;", 3, 999, 100, 500, 120, 0, 510, 990, 530);
        x.choose(1);
        Due.is("pick", x.pick(), 30);
        row("pick", x, 1, 2, 5, 7);
        Due.is("pick once more", x.pick(), -1);
    }

    private static void pickFirstSet() {
        // Spans 500 .. 510, 505 .. 515 and 300 .. 310 are like ones: sets 0 1 4, 0 1 3 and 2 5 6.
        RopeRace x = Due.town("run 3;", 3, 510, 505, 302, 515, 500, 300, 310);
        x.choose(1);
        Due.is("pick", x.pick(), 10);
        row("first set", x, 1, 0, 1, 3);
        RopeRace y = Due.town("run 2;", 2, 7, 100, 50, 100, 7, 50);
        y.choose(1);
        Due.is("pick of twins", y.pick(), 0);
        row("first twins", y, 1, 0, 4);
        RopeRace z = Due.town("run 3;", 3, 5, 5, 9, 5, 5);
        z.choose(1);
        Due.is("pick of more than enough", z.pick(), 0);
        row("first three", z, 1, 0, 1, 3);
    }

    private static void pickRefused() {
        RopeRace x = Due.town("run 3;", 3, 1, 2);
        Due.is("pick ahead of choose", x.pick(), -1);
        x.choose(1);
        Due.is("pick of too few", x.pick(), -1);
        Due.is("count(1)", x.count(1), 1);
        Due.is("lots ahead of pick", x.lots(1), false);
        x.horse(3);
        Due.is("pick", x.pick(), 2);
        Due.is("count(1)", x.count(1), 2);
    }

    private static void drawLots() {
        // Horses 1 2 3: the third, the second left, the last; places: the second ward, the first left, the last.
        RopeRace x = Due.town("run 3;", 3, 900, 10, 11, 12);
        Due.is("lots ahead of choose", x.lots(1), false);
        x.choose(1);
        x.pick();
        Due.is("lots", x.lots(seedOf(3, 2, 2, 1, 1, 0, 3, 1, 2, 0)), true);
        Due.is("look(0, 0)", x.look(0, 0), 3);
        Due.is("look(1, 0)", x.look(1, 0), 2);
        Due.is("look(2, 0)", x.look(2, 0), 1);
        row("places", x, 2, 1, 0, 2);
        Due.is("lots once more", x.lots(1), false);
        Due.is("count(1)", x.count(1), 3);
        x.next();
        Due.is("the horse is gone", x.look(0, 0), -1);
        row("no places", x, 2);
    }

    private static void drawnBounds() {
        RopeRace x = Due.town("run 2;", 3, 1, 2);
        row("nothing", x, 0);
        x.choose(1);
        row("chosen", x, 0, 0, 1);
        row("not picked", x, 1);
        row("no lots", x, 2);
        x.pick();
        row("picked", x, 1, 0, 1);
        row("no lots", x, 2);
        x.lots(1);
        Due.is("drawn(2, 0) and (2, 1)", x.drawn(2, 0) + x.drawn(2, 1), 1);
        Due.is("drawn(0, -1)", x.drawn(0, -1), -1);
        Due.is("drawn(2, 10)", x.drawn(2, 10), -1);
        Due.is("drawn(-1, 0)", x.drawn(-1, 0), -1);
        Due.is("drawn(3, 0)", x.drawn(3, 0), -1);
        x.drop(1);
        x.go(400);
        row("behind the race", x, 0, 0, 1);
        x.next();
        row("gone", x, 0);
        row("gone", x, 1);
        row("gone", x, 2);
    }

    private static void lookBounds() {
        RopeRace x = Due.town("run 2;", 2, 1, 2);
        int[] first = {-1, -1, -1, 0, 0};
        for (int what = 0; what < first.length; what++) {
            Due.is("look(1, " + what + ")", x.look(1, what), first[what]);
        }
        Due.is("look(1, 5)", x.look(1, 5), -1);
        Due.is("look(1, -1)", x.look(1, -1), -1);
        Due.is("look(2, 4)", x.look(2, 4), -1);
        Due.is("look(-1, 4)", x.look(-1, 4), -1);
    }
}
