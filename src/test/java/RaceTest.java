/** Promises 19 to 21: go, race, won; and the rules of a tick. */
public final class RaceTest {
    public static void main(String[] args) {
        paceAndMarks();
        lostPace();
        passing();
        bumping();
        bendFalls();
        fallAtTheEnd();
        looseWinner();
        lawOfTheStart();
        lapped();
        hinder();
        hinderNot();
        help();
        fallenRiderHasNoOrders();
        Due.end();
    }

    private static void paceAndMarks() {
        // The most that marks allow: 3, 3, 4, 6.
        RopeRace x = Due.started("run 4; laps 5;", 60, Due.calm(32), 0, 249, 250, 999);
        int[] dists = {21, 21, 26, 33};
        int[] paces = {3, 3, 4, 6};
        Due.is("go(8)", x.go(8), 8);
        for (int ward = 0; ward < 4; ward++) {
            Due.at("calm", x, ward, dists[ward], ward, paces[ward]);
        }
        Due.is("won so far", x.won(), -1);
        Due.is("bumps", x.race(0, 5), 0);
    }

    private static void lostPace() {
        RopeRace x = Due.started("run 2;", 20, Due.seed(-8, 8, 8, -8, -8, -8), 0, 0);
        x.go(1);
        Due.at("tick 1, at least 1", x, 0, 1, 0, 1);
        x.go(1);
        Due.at("tick 2", x, 0, 3, 0, 2);
        Due.at("tick 2, one less", x, 1, 2, 1, 1);
        x.go(1);
        Due.at("tick 3: 3 less 1", x, 0, 5, 0, 2);
        Due.at("tick 3: 2 less 1", x, 1, 3, 1, 1);
    }

    private static void passing() {
        // Ward 4 starts behind ward 0; all lose pace but it, so it finds ward 0 in its way, and its side lane taken.
        RopeRace x = Due.started("run 5;", 20, Due.seed(8, 8, 8, 8, 8, -8, -8, -8, -8, 8), 999, 999, 999, 999, 999);
        x.go(1);
        Due.at("behind it", x, 4, 0, 0, 1);
        x.go(1);
        Due.at("the first", x, 0, 2, 0, 1);
        // Pace 2 from 0: cell 1 is free, cell 2 is full in lanes 0 and 1: it bumps.
        Due.at("the fifth bumps", x, 4, 1, 0, 0);
        Due.is("bumps", x.race(4, 5), 1);

        // Ward 0 alone loses pace: the lane beside it is left.
        RopeRace y = Due.started("run 5;", 20, Due.seed(8, 8, 8, 8, 8, -8, 8, 8, 8, 8), 999, 999, 999, 999, 999);
        y.go(2);
        Due.at("the first lost pace", y, 0, 2, 0, 1);
        Due.at("the second goes on", y, 1, 3, 1, 2);
        Due.at("the fifth goes round it", y, 4, 2, 1, 2);
        Due.is("no bumps", y.race(4, 5), 0);
    }

    private static void bumping() {
        // The one at place 7 has that of place 3 in its way, and that of place 6 beside it.
        RopeRace x = Due.started("run 8;", 20,
                Due.seed(8, 8, 8, 8, 8, 8, 8, 8, 8, 8, 8, -8, 8, 8, 8, 8), 0, 0, 0, 0, 0, 0, 0, 0);
        x.go(2);
        Due.at("lost pace", x, x.drawn(2, 3), 2, 3, 1);
        Due.at("goes on", x, x.drawn(2, 6), 2, 2, 2);
        Due.at("bumps", x, x.drawn(2, 7), 1, 3, 0);
        Due.is("bumps", x.race(x.drawn(2, 7), 5), 1);
        x.go(1);
        Due.is("a bump leaves a pace of 1", x.race(x.drawn(2, 7), 2), 1);
    }

    private static void bendFalls() {
        RopeRace x = Due.town("run 2; bend 1;", 2, 0, 0);
        x.ring(12);
        x.bend(1, true);
        x.bend(2, true);
        x.bend(3, true);
        Due.prepare(x);
        // Tick 1: pace 1 isn't above bend. Tick 2: ward 0 falls at cell 2; ward 1 stays up at 2 and at 3.
        x.drop(Due.seed(8, 8, 8, -4, 8, 4, 4, 8, 8));
        x.go(1);
        Due.is("no fall at pace 1", x.race(0, 3) + x.race(1, 3), 0);
        x.go(1);
        Due.at("falls", x, 0, 2, 0, 1);
        Due.is("without a rider", x.race(0, 3), 1);
        Due.at("stays up", x, 1, 3, 1, 2);
        Due.is("with a rider", x.race(1, 3), 0);
        x.go(1);
        Due.at("goes on without, and no draw at 3", x, 0, 4, 0, 2);
        Due.at("goes on", x, 1, 6, 1, 3);
    }

    private static void fallAtTheEnd() {
        RopeRace x = Due.town("run 2; bend 2;", 2, 0, 0);
        x.ring(12);
        x.bend(0, true);
        Due.prepare(x);
        x.drop(Due.seed(8, 8, 8, 8, 8, 8, 8, 8, 8, -4, 8, 4));
        Due.is("go", x.go(400), 5);
        Due.at("arrives without a rider", x, 0, 12, 0, 1);
        Due.is("race(0, 3)", x.race(0, 3), 1);
        Due.is("race(0, 4)", x.race(0, 4), 0);
        Due.at("arrives", x, 1, 12, 1, 3);
        Due.is("race(1, 4)", x.race(1, 4), 1);
        Due.is("the first with a rider has won", x.won(), 1);
    }

    private static void looseWinner() {
        int seed = Due.seed(8, 8, 8, 8, 8, 8, 8, 8, 8, -4, 8, -4);
        for (int loose = 0; loose <= 1; loose++) {
            RopeRace x = Due.town("run 2; bend 2; loose " + loose + ";", 2, 0, 0);
            x.ring(12);
            x.bend(0, true);
            Due.prepare(x);
            x.drop(seed);
            x.go(4);
            Due.is("won ahead of the end", x.won(), -1);
            x.go(1);
            Due.is("both fell", x.race(0, 3) + x.race(1, 3), 2);
            Due.is("count(1)", x.count(1), 5);
            Due.is("won with loose " + loose, x.won(), loose == 1 ? 0 : -1);
        }
    }

    private static void lawOfTheStart() {
        RopeRace x = Due.started("run 2; laps 2;", 12, Due.calm(20), 0, 0);
        Due.tell(x, "laps 1; bend 1; loose 1;", 0);
        x.go(400);
        Due.at("laps are those of the start", x, 0, 24, 0, 3);
        Due.is("won", x.won(), 0);
    }

    private static void lapped() {
        // A mark of 999 against 0 on 12 cells: the faster one comes up from behind in the other's lane.
        RopeRace x = Due.started("run 5; laps 5;", 12, Due.calm(60), 999, 0, 0, 0, 999);
        x.go(12);
        int shared = 0;
        for (int ward = 0; ward < 5; ward++) {
            for (int other = 0; other < ward; other++) {
                boolean same = Math.floorMod(x.race(ward, 0) - x.race(other, 0), 12) == 0
                        && x.race(ward, 1) == x.race(other, 1)
                        && x.race(ward, 4) == -1 && x.race(other, 4) == -1;
                shared += same ? 1 : 0;
            }
        }
        Due.is("runners on one cell and lane", shared, 0);
    }

    /** Wards 0 in lane 0 and 1 in lane 1, one cell apart behind a tick or two. */
    private static RopeRace apartByOne() {
        RopeRace x = Due.started("run 2;", 20, Due.seed(8, 8, 8, -8, 8, 8, 8, 8), 999, 999);
        x.go(2);
        Due.at("apart", x, 0, 3, 0, 2);
        Due.at("apart", x, 1, 2, 1, 1);
        return x;
    }

    private static void hinder() {
        RopeRace x = apartByOne();
        x.orders(0, 1, 1);
        x.go(1);
        Due.at("goes into its lane", x, 0, 6, 1, 3);
        Due.at("the other one", x, 1, 4, 1, 2);
        RopeRace y = apartByOne();
        y.orders(1, 1, 0);
        y.go(1);
        Due.at("one ahead of it isn't hindered", y, 1, 4, 1, 2);
    }

    private static void hinderNot() {
        RopeRace x = apartByOne();
        x.orders(0, 1, 1);
        x.orders(0, 0, 0);
        x.go(1);
        Due.at("orders are gone", x, 0, 6, 0, 3);
        // Side by side, and one lane too far.
        RopeRace y = Due.started("run 3;", 20, Due.seed(8, 8, 8, 8, 8, -8, 8, 8, 8), 999, 999, 999);
        y.orders(0, 1, 1);
        y.orders(1, 2, 2);
        y.go(2);
        Due.at("like DISTS", y, 0, 3, 0, 2);
        Due.at("lost pace", y, 2, 2, 2, 1);
        y.orders(0, 1, 2);
        y.go(1);
        Due.at("two lanes away", y, 0, 6, 0, 3);
        Due.at("not in its own lane", y, 1, 6, 1, 3);
        // Its own DIST in that lane is not free.
        RopeRace z = Due.started("run 3;", 20, Due.seed(8, 8, 8, -8, 8, 8, 8, 8, 8, 8, 8, 8, 8), 999, 999, 999);
        z.go(2);
        Due.at("ward 0 lost pace", z, 0, 2, 0, 1);
        z.orders(2, 1, 1);
        z.orders(1, 1, 0);
        z.go(1);
        Due.at("into lane 0", z, 1, 6, 0, 3);
        Due.at("like DISTS", z, 2, 6, 2, 3);
    }

    private static void help() {
        RopeRace x = apartByOne();
        x.orders(0, 1, 1);
        x.go(1);
        x.orders(0, 2, 1);
        x.go(1);
        Due.at("the lane one less", x, 0, 10, 0, 4);
        Due.at("the one that is helped", x, 1, 7, 1, 3);

        // Of lane 0 there is none less: one more.
        RopeRace y = Due.started("run 2;", 20, Due.seed(8, 8, -8, 8, 8, 8, 8, 8), 999, 999);
        y.go(2);
        y.orders(1, 1, 0);
        y.go(1);
        Due.at("hinders in lane 0", y, 1, 6, 0, 3);
        y.orders(1, 2, 0);
        y.go(1);
        Due.at("the lane one more", y, 1, 10, 1, 4);
    }

    private static void fallenRiderHasNoOrders() {
        // Both come into cell 3 with a pace of 2; ward 1 loses pace and stays at 2; ward 0's rider falls.
        RopeRace x = Due.town("run 2; bend 1;", 2, 999, 999);
        x.ring(20);
        x.bend(3, true);
        x.orders(0, 1, 1);
        Due.prepare(x);
        x.drop(Due.seed(8, 8, 8, -4, -8, 8, 8, 4));
        x.go(2);
        Due.at("fell", x, 0, 3, 0, 1);
        Due.at("one behind", x, 1, 2, 1, 1);
        x.go(1);
        Due.at("stays in its lane", x, 0, 5, 0, 2);
    }
}
