/** The edges that part 3 of the terms names in a TICK, a sentence each. */
public final class TickEdgesTest {
    public static void main(String[] args) {
        beginsAtPlaces();
        beginsAnew();
        ringWrapsRound();
        greaterDistFirst();
        lesserLaneFirst();
        hinderOneOrTwoLess();
        hinderLikeDistAndThreeLess();
        hinderOneAhead();
        hinderALapAhead();
        hinderALaneLess();
        hinderTwoLanesAway();
        hinderWhereItIsNotFree();
        helpALaneLess();
        helpInLaneNought();
        helpWhereOneLessIsNotFree();
        helpInTheLastLane();
        helpWhereNoneIsFree();
        helpInAnotherLane();
        helpTooFar();
        noOrdersWithoutARider();
        drawsWrapRound();
        paceMost();
        paceLeast();
        nextCellInOwnLane();
        laneOneLessFirst();
        laneOneMoreElse();
        laneOneMoreWhereThereIsNoneLess();
        laneOneMoreIsTheLast();
        bumpsInLaneNought();
        bumpsInTheLastLane();
        bumpsOnceInATick();
        bendAtLikePace();
        bendByItsDraw();
        bendEachTime();
        bendWhereTheRingEnds();
        bendWhereItBegins();
        bendWithoutARider();
        arrivesWithPaceLeft();
        bendAheadOfArriving();
        arrivedIsOffTheRing();
        Due.end();
    }

    /** The draws of PACES in which just the told ones, by their numbers from 0 on, lose pace. */
    private static int losing(int draws, int... lost) {
        int[] all = new int[draws];
        java.util.Arrays.fill(all, 8);
        for (int draw : lost) {
            all[draw] = -8;
        }
        return Due.seed(all);
    }

    private static void beginsAtPlaces() {
        Due.sentence("Terms 3: The one at place k begins with DIST - (k / 4), LANE k modulo 4, PACE 0");
        RopeRace x = Due.started("run 10;", 12, 1, 0, 0, 0, 0, 0, 0, 0, 0, 0, 0);
        int[] dists = {0, 0, 0, 0, -1, -1, -1, -1, -2, -2};
        int[] lanes = {0, 1, 2, 3, 0, 1, 2, 3, 0, 1};
        for (int k = 0; k < 10; k++) {
            int ward = x.drawn(2, k);
            Due.at("place " + k, x, ward, dists[k], lanes[k], 0);
            Due.is("with a rider", x.race(ward, 3), 0);
            Due.is("not arrived", x.race(ward, 4), -1);
            Due.is("no bumps", x.race(ward, 5), 0);
        }
    }

    private static void beginsAnew() {
        Due.sentence("Terms 3: begins with PACE 0; behind a race with falls and bumps");
        RopeRace x = Due.town("run 10; bend 1; laps 5;", 10, 999, 999, 999, 999, 0, 0, 0, 0, 0, 0);
        x.ring(12);
        for (int cell = 0; cell < 12; cell++) {
            x.bend(cell, true);
        }
        Due.prepare(x);
        x.drop(1);
        x.go(400);
        int bumps = 0;
        for (int ward = 0; ward < 10; ward++) {
            Due.is("each rider fell", x.race(ward, 3), 1);
            bumps += x.race(ward, 5);
        }
        Due.is("some bumped", bumps > 0, true);
        x.next();
        Due.prepare(x);
        x.drop(1);
        for (int k = 0; k < 10; k++) {
            int ward = x.drawn(2, k);
            Due.at("place " + k, x, ward, -(k / 4), k % 4, 0);
            Due.is("with a rider", x.race(ward, 3), 0);
            Due.is("not arrived", x.race(ward, 4), -1);
            Due.is("no bumps", x.race(ward, 5), 0);
        }
    }

    private static void ringWrapsRound() {
        Due.sentence("Terms 3: At most one runner is at a DIST and LANE modulo L");
        // Ward 0 goes into lane 1 behind tick 4, a cell ahead of ward 1, and comes upon it a lap later.
        RopeRace x = Due.started("run 2; laps 5;", 12, Due.calm(16), 999, 0);
        x.orders(0, 1, 1);
        x.go(5);
        Due.at("tick 5", x, 0, 15, 1, 5);
        Due.at("tick 5", x, 1, 12, 1, 3);
        x.go(1);
        Due.at("tick 6", x, 0, 21, 1, 6);
        Due.at("tick 6", x, 1, 15, 1, 3);
        x.go(1);
        Due.at("tick 7: 27 is 15 and a lap", x, 0, 27, 0, 6);
        Due.at("tick 7", x, 1, 18, 1, 3);
        Due.is("no bumps", x.race(0, 5), 0);
    }

    private static void greaterDistFirst() {
        Due.sentence("Terms 3: runners on the ring one by one: the greater DIST first");
        // Behind tick 2 ward 1 is ahead: the fifth draw is its own, the sixth ward 0's.
        RopeRace x = Due.started("run 2;", 20, losing(6, 2, 4), 999, 999);
        x.go(2);
        Due.at("tick 2", x, 0, 2, 0, 1);
        Due.at("tick 2", x, 1, 3, 1, 2);
        x.go(1);
        Due.at("tick 3, loses pace", x, 1, 5, 1, 2);
        Due.at("tick 3", x, 0, 4, 0, 2);
    }

    private static void lesserLaneFirst() {
        Due.sentence("Terms 3: of like ones the lesser LANE");
        RopeRace x = Due.started("run 2;", 20, losing(4, 0, 2), 999, 999);
        x.go(2);
        Due.at("lane 0 has the third draw", x, 0, 2, 0, 1);
        Due.at("lane 1 has the fourth", x, 1, 3, 1, 2);
        // Ward 0 hinders in lane 1; ward 1 goes round it into lane 0 and is beside it behind tick 6.
        RopeRace y = Due.started("run 2;", 40, losing(14, 3, 6, 8, 10, 11, 13), 999, 999);
        y.orders(0, 1, 1);
        y.go(5);
        Due.at("tick 5", y, 0, 12, 1, 3);
        Due.at("tick 5", y, 1, 11, 1, 4);
        y.orders(0, 0, 0);
        y.go(1);
        Due.at("tick 6", y, 0, 15, 1, 3);
        Due.at("tick 6", y, 1, 15, 0, 4);
        y.go(1);
        Due.at("tick 7: lane 0 has the first draw, though it is ward 1 of place 1", y, 1, 20, 0, 5);
        Due.at("tick 7: lane 1 loses pace", y, 0, 18, 1, 3);
        // Lots the other way round: ward 1 is in lane 0.
        RopeRace z = Due.town("run 2;", 2, 999, 999);
        z.choose(1);
        z.pick();
        z.lots(Due.seedOf(2, 0, 1, 0, 2, 1));
        z.drop(losing(4, 2));
        z.go(2);
        Due.at("ward 1 in lane 0 has the third draw", z, 1, 2, 0, 1);
        Due.at("ward 0 in lane 1 has the fourth", z, 0, 3, 1, 2);
    }

    /** Ward 0 in lane 0 comes to be one, two or three ahead of ward 1 in lane 1; the next tick is calm. */
    private static RopeRace ahead(int by) {
        int seed = by == 3 ? losing(8, 3, 5) : losing(8, 3);
        RopeRace x = Due.started("run 2;", 40, seed, 999, 999);
        x.go(by == 1 ? 2 : 3);
        Due.is("ahead by", x.race(0, 0) - x.race(1, 0), by);
        return x;
    }

    private static void hinderOneOrTwoLess() {
        Due.sentence("Terms 3: another runner that is on the ring at the DIST one or two less than its own");
        for (int by = 1; by <= 2; by++) {
            RopeRace x = ahead(by);
            x.orders(0, 1, 1);
            x.go(1);
            Due.is("LANE behind hindering one " + by + " less", x.race(0, 1), 1);
            Due.is("LANE of the one that is hindered", x.race(1, 1), 1);
        }
    }

    private static void hinderLikeDistAndThreeLess() {
        Due.sentence("Terms 3: at the DIST one or two less than its own; none and three less");
        RopeRace x = ahead(3);
        x.orders(0, 1, 1);
        x.go(1);
        Due.is("LANE with one three less", x.race(0, 1), 0);
        RopeRace y = Due.started("run 2;", 40, Due.calm(4), 999, 999);
        y.orders(0, 1, 1);
        y.orders(1, 1, 0);
        y.go(2);
        Due.at("like DISTS", y, 0, 3, 0, 2);
        Due.at("like DISTS", y, 1, 3, 1, 2);
    }

    private static void hinderOneAhead() {
        Due.sentence("Terms 3: at the DIST one or two less than its own; one or two more");
        for (int by = 1; by <= 2; by++) {
            RopeRace x = ahead(by);
            x.orders(1, 1, 0);
            x.go(1);
            Due.is("LANE behind one " + by + " more", x.race(1, 1), 1);
        }
    }

    private static void hinderALapAhead() {
        Due.sentence("Terms 3: at the DIST one or two less than its own; not modulo L");
        // PACES of 4 and 3: behind tick 16 ward 0 is a lap and a cell ahead.
        RopeRace x = Due.started("run 2; laps 5;", 12, Due.calm(34), 250, 0);
        x.go(16);
        Due.at("tick 16", x, 0, 58, 0, 4);
        Due.at("tick 16", x, 1, 45, 1, 3);
        x.orders(0, 1, 1);
        x.go(1);
        Due.is("LANE", x.race(0, 1), 0);
    }

    private static void hinderALaneLess() {
        Due.sentence("Terms 3: HINDER: if that is in a LANE beside (one more or less)");
        RopeRace x = Due.started("run 2;", 40, losing(6, 2), 999, 999);
        x.orders(1, 1, 0);
        x.go(3);
        Due.at("into the lane one less", x, 1, 6, 0, 3);
        Due.at("the other one", x, 0, 4, 0, 2);
    }

    private static void hinderTwoLanesAway() {
        Due.sentence("Terms 3: HINDER: if that is in a LANE beside; its own, or two away");
        RopeRace x = Due.started("run 3;", 40, losing(9, 5), 999, 999, 999);
        x.orders(0, 1, 2);
        x.go(3);
        Due.at("two away", x, 0, 6, 0, 3);
        Due.at("the other one", x, 2, 4, 2, 2);
        RopeRace y = ahead(1);
        y.orders(0, 1, 1);
        y.go(1);
        Due.at("beside", y, 0, 6, 1, 3);
        y.go(1);
        Due.at("its own: it stays", y, 0, 10, 1, 4);
    }

    private static void hinderWhereItIsNotFree() {
        Due.sentence("Terms 3: HINDER: and this one's own DIST there is free");
        // Place 5 is behind place 1 in lane 1, beside place 0's own.
        RopeRace x = Due.town("run 6;", 6, 0, 0, 0, 0, 0, 0);
        Due.prepare(x);
        int first = x.drawn(2, 0);
        x.orders(first, 1, x.drawn(2, 5));
        x.drop(Due.calm(6));
        x.go(1);
        Due.at("it stays", x, first, 1, 0, 1);
        Due.at("the one that was there", x, x.drawn(2, 1), 1, 1, 1);
    }

    /** Ward 0 is a cell ahead of ward 1, both in lane 1. */
    private static RopeRace inOneLane() {
        RopeRace x = ahead(1);
        x.orders(0, 1, 1);
        x.go(1);
        Due.at("in one lane", x, 0, 6, 1, 3);
        Due.at("in one lane", x, 1, 4, 1, 2);
        return x;
    }

    private static void helpALaneLess() {
        Due.sentence("Terms 3: HELP: if that is in its own LANE, it goes into the LANE one less");
        RopeRace x = inOneLane();
        x.orders(0, 2, 1);
        x.go(1);
        Due.is("LANE", x.race(0, 1), 0);
        Due.is("LANE of the one that is helped", x.race(1, 1), 1);
    }

    private static void helpInLaneNought() {
        Due.sentence("Terms 3: HELP: the LANE one less, else one more, if there is one; in LANE 0");
        RopeRace x = Due.started("run 2;", 40, losing(8, 2), 999, 999);
        x.orders(1, 1, 0);
        x.go(3);
        Due.at("in lane 0", x, 1, 6, 0, 3);
        x.orders(1, 2, 0);
        x.go(1);
        Due.at("one more", x, 1, 10, 1, 4);
    }

    private static void helpWhereOneLessIsNotFree() {
        Due.sentence("Terms 3: HELP: the LANE one less, else one more, if its own DIST there is free");
        // Ward 1 loses pace in tick 7 and ward 2 goes into its lane; ward 0 is a lap behind at the same cell.
        RopeRace x = Due.started("run 3; laps 5;", 12, losing(27, 18), 0, 999, 999);
        x.go(7);
        Due.at("tick 7", x, 1, 26, 1, 5);
        Due.at("tick 7", x, 2, 27, 2, 6);
        x.orders(2, 1, 1);
        x.go(1);
        Due.at("tick 8", x, 0, 21, 0, 3);
        Due.at("tick 8", x, 1, 32, 1, 6);
        Due.at("tick 8", x, 2, 33, 1, 6);
        x.orders(2, 2, 1);
        x.go(1);
        Due.at("tick 9", x, 2, 39, 2, 6);
    }

    private static void helpInTheLastLane() {
        Due.sentence("Terms 3: HELP: else one more, if there is one; in LANE 3");
        // Ward 1 goes into lane 2 ahead of ward 2, then into lane 3 ahead of ward 3; ward 2 is a lap behind beside it.
        RopeRace x = Due.started("run 4; laps 5;", 12, losing(36, 22), 999, 999, 0, 999);
        x.orders(1, 1, 2);
        x.go(6);
        Due.at("tick 6", x, 1, 21, 2, 6);
        Due.at("tick 6", x, 3, 20, 3, 5);
        x.orders(1, 1, 3);
        x.go(2);
        Due.at("tick 8", x, 1, 33, 3, 6);
        Due.at("tick 8", x, 2, 21, 2, 3);
        Due.at("tick 8", x, 3, 32, 3, 6);
        x.orders(1, 2, 3);
        x.go(1);
        Due.at("tick 9: it stays", x, 1, 39, 3, 6);
    }

    private static void helpWhereNoneIsFree() {
        Due.sentence("Terms 3: HELP: if there is one and its own DIST there is free; neither is");
        RopeRace x = Due.started("run 5;", 20, Due.calm(5), 0, 0, 0, 0, 0);
        x.orders(0, 2, 4);
        x.go(1);
        Due.at("in lane 0, with one in lane 1", x, 0, 1, 0, 1);
        Due.at("the one in lane 1", x, 1, 1, 1, 1);
    }

    private static void helpInAnotherLane() {
        Due.sentence("Terms 3: HELP: if that is in its own LANE; beside it");
        RopeRace x = ahead(1);
        x.orders(0, 2, 1);
        x.go(1);
        Due.at("it stays", x, 0, 6, 0, 3);
    }

    private static void helpTooFar() {
        Due.sentence("Terms 3: HELP another runner at the DIST one or two less; two and three less");
        RopeRace x = inOneLane();
        Due.is("two less", x.race(0, 0) - x.race(1, 0), 2);
        RopeRace y = Due.started("run 2;", 40, losing(10, 3, 7), 999, 999);
        y.orders(0, 1, 1);
        y.go(4);
        Due.at("four ahead", y, 0, 10, 1, 4);
        Due.at("four behind", y, 1, 6, 1, 2);
        y.orders(0, 2, 1);
        y.go(1);
        Due.at("four less: it stays", y, 0, 15, 1, 5);
        RopeRace z = Due.started("run 2;", 40, losing(10, 3), 999, 999);
        z.orders(0, 1, 1);
        z.go(4);
        Due.at("three ahead", z, 0, 10, 1, 4);
        Due.at("three behind", z, 1, 7, 1, 3);
        z.orders(0, 2, 1);
        z.go(1);
        Due.at("three less: it stays", z, 0, 15, 1, 5);
        x.orders(0, 2, 1);
        x.go(1);
        Due.is("two less: it goes", x.race(0, 1), 0);
    }

    private static void noOrdersWithoutARider() {
        Due.sentence("Terms 3: (a) with a rider");
        for (int how = 1; how <= 2; how++) {
            RopeRace x = Due.town("run 2; bend 1;", 2, 999, 999);
            x.bend(3, true);
            Due.prepare(x);
            x.drop(Due.seed(8, 8, 8, -4, -8, 8, 8, 4));
            x.go(2);
            Due.is("its rider fell", x.race(0, 3), 1);
            Due.is("one ahead", x.race(0, 0) - x.race(1, 0), 1);
            x.orders(0, how, 1);
            x.go(1);
            Due.is("LANE with how " + how, x.race(0, 1), 0);
        }
    }

    private static void drawsWrapRound() {
        Due.sentence("Promise 18: the race's draws by a seed; Terms 2: 32 bits, round");
        // By hand: 16769, 422, 5237, 5514, 9960, 3867: the fifth alone is 0 modulo 8. Bit 31 of a seed never shows.
        for (int seed : new int[] {-987654321, -987654321 ^ Integer.MIN_VALUE}) {
            RopeRace x = Due.started("run 2;", 20, seed, 0, 0);
            x.go(2);
            Due.at("tick 2", x, 0, 3, 0, 2);
            Due.at("tick 2", x, 1, 3, 1, 2);
            x.go(1);
            Due.at("tick 3 loses pace", x, 0, 5, 0, 2);
            Due.at("tick 3", x, 1, 6, 1, 3);
        }
    }

    private static void paceMost() {
        Due.sentence("Terms 3: PACE is the least of PACE and 1, and of 3 and MARK / 250 (cut)");
        int[][] marks = {{0, 249, 250, 499}, {500, 749, 750, 999}};
        int[][] most = {{3, 3, 4, 4}, {5, 5, 6, 6}};
        for (int i = 0; i < 2; i++) {
            RopeRace x = Due.started("run 4; laps 5;", 60, Due.calm(32), marks[i]);
            for (int tick = 1; tick <= 8; tick++) {
                x.go(1);
                for (int ward = 0; ward < 4; ward++) {
                    int want = Math.min(tick, most[i][ward]);
                    Due.is("PACE of MARK " + marks[i][ward] + " in tick " + tick, x.race(ward, 2), want);
                }
            }
        }
    }

    private static void paceLeast() {
        Due.sentence("Terms 3: a number modulo 8 is drawn: if it is 0, PACE is 1 less; PACE is at least 1");
        RopeRace x = Due.started("run 2;", 20, losing(4, 0, 1, 2, 3), 0, 0);
        x.go(1);
        Due.at("tick 1", x, 0, 1, 0, 1);
        Due.at("tick 1", x, 1, 1, 1, 1);
        x.go(1);
        Due.at("tick 2", x, 0, 2, 0, 1);
        for (int drawn = 0; drawn < 8; drawn++) {
            RopeRace y = Due.started("run 2;", 20, Due.seedOf(8, 1, 8, 1, 8, drawn), 0, 0);
            y.go(2);
            Due.is("PACE by a draw of " + drawn, y.race(0, 2), drawn == 0 ? 1 : 2);
            Due.is("DIST by a draw of " + drawn, y.race(0, 0), drawn == 0 ? 2 : 3);
        }
    }

    private static void nextCellInOwnLane() {
        Due.sentence("Terms 3: PACE times a CELL on: in its own LANE, if the next CELL there is free");
        RopeRace x = Due.started("run 4;", 20, Due.calm(12), 0, 0, 0, 0);
        x.go(3);
        for (int ward = 0; ward < 4; ward++) {
            Due.at("side by side", x, ward, 6, ward, 3);
        }
    }

    private static void laneOneLessFirst() {
        Due.sentence("Terms 3: else into the next CELL of the LANE one less");
        RopeRace x = Due.started("run 2;", 40, losing(12, 3, 6, 8, 10), 999, 999);
        x.orders(0, 1, 1);
        x.go(5);
        Due.at("ahead in lane 1", x, 0, 12, 1, 3);
        Due.at("behind it", x, 1, 11, 1, 4);
        x.go(1);
        Due.at("it holds lane 1 up", x, 0, 15, 1, 3);
        Due.at("lanes 0 and 2 are free", x, 1, 16, 0, 5);
    }

    private static void laneOneMoreElse() {
        Due.sentence("Terms 3: else of the one one more, if that is free");
        // Places 0 and 1 lose pace in tick 2: place 5 finds lanes 1 and 0 taken.
        RopeRace x = Due.town("run 6;", 6, 0, 0, 0, 0, 0, 0);
        Due.prepare(x);
        x.drop(losing(12, 6, 7));
        x.go(2);
        Due.at("place 0", x, x.drawn(2, 0), 2, 0, 1);
        Due.at("place 1", x, x.drawn(2, 1), 2, 1, 1);
        Due.at("place 4 bumps", x, x.drawn(2, 4), 1, 0, 0);
        Due.at("place 5 goes into lane 2", x, x.drawn(2, 5), 2, 2, 2);
        Due.is("no bumps", x.race(x.drawn(2, 5), 5), 0);
    }

    private static void laneOneMoreWhereThereIsNoneLess() {
        Due.sentence("Terms 3: the LANE one less, else of the one one more; in LANE 0");
        RopeRace x = Due.started("run 5;", 20, losing(10, 5), 0, 0, 0, 0, 0);
        x.go(2);
        Due.at("ahead", x, 0, 2, 0, 1);
        Due.at("into lane 1", x, 4, 2, 1, 2);
    }

    private static void laneOneMoreIsTheLast() {
        Due.sentence("Terms 3: else of the one one more, if there is one and that is free; LANE 3");
        // Places 1 and 2 lose pace in tick 2: place 6 finds lanes 2 and 1 taken.
        RopeRace x = Due.town("run 7;", 7, 0, 0, 0, 0, 0, 0, 0);
        Due.prepare(x);
        x.drop(losing(14, 8, 9));
        x.go(2);
        Due.at("place 1", x, x.drawn(2, 1), 2, 1, 1);
        Due.at("place 2", x, x.drawn(2, 2), 2, 2, 1);
        Due.at("place 6", x, x.drawn(2, 6), 2, 3, 2);
    }

    private static void bumpsInLaneNought() {
        Due.sentence("Terms 3: else it BUMPS: PACE is 0, it goes no more; in LANE 0");
        RopeRace x = Due.started("run 5;", 20, losing(10, 5, 6), 0, 0, 0, 0, 0);
        x.go(2);
        Due.at("bumps behind a cell", x, 4, 1, 0, 0);
        Due.is("bumps", x.race(4, 5), 1);
        Due.is("none of the others", x.race(0, 5) + x.race(1, 5) + x.race(2, 5) + x.race(3, 5), 0);
        x.go(1);
        Due.is("PACE behind it", x.race(4, 2), 1);
        Due.is("bumps stay", x.race(4, 5), 1);
    }

    private static void bumpsInTheLastLane() {
        Due.sentence("Terms 3: else it BUMPS; in LANE 3, where there is none one more");
        // Places 2 and 3 lose pace; place 6 goes into lane 1, place 7 finds lanes 3 and 2 taken.
        RopeRace x = Due.town("run 8;", 8, 0, 0, 0, 0, 0, 0, 0, 0);
        Due.prepare(x);
        x.drop(losing(16, 10, 11));
        x.go(2);
        Due.at("place 2", x, x.drawn(2, 2), 2, 2, 1);
        Due.at("place 3", x, x.drawn(2, 3), 2, 3, 1);
        Due.at("place 7", x, x.drawn(2, 7), 1, 3, 0);
        Due.is("bumps", x.race(x.drawn(2, 7), 5), 1);
    }

    private static void bumpsOnceInATick() {
        Due.sentence("Terms 3: else it BUMPS: PACE is 0, it goes no more; with PACE left");
        // In tick 4 wards 0 and 1 lose pace and come to 8; ward 4 has a PACE of 4 and bumps at 7.
        RopeRace x = Due.started("run 5;", 40, losing(20, 15, 16), 0, 0, 0, 0, 999);
        x.go(3);
        Due.at("tick 3", x, 0, 6, 0, 3);
        Due.at("tick 3", x, 4, 5, 0, 3);
        x.go(1);
        Due.at("tick 4", x, 0, 8, 0, 2);
        Due.at("tick 4", x, 1, 8, 1, 2);
        Due.at("tick 4", x, 4, 7, 0, 0);
        Due.is("bumps", x.race(4, 5), 1);
    }

    private static RopeRace bends(String text, int cells, int... bends) {
        RopeRace x = Due.town(text, 2, 0, 0);
        x.ring(cells);
        for (int cell : bends) {
            x.bend(cell, true);
        }
        Due.prepare(x);
        return x;
    }

    private static void bendAtLikePace() {
        Due.sentence("Terms 3: a PACE above bend: a number modulo 4 is drawn; not at bend itself");
        for (int bend = 1; bend <= 3; bend++) {
            // In tick 2 both come into cell 3 with a PACE of 2; draws that would be a fall are those of PACES.
            RopeRace x = bends("run 2; bend " + bend + ";", 20, 2, 3);
            x.drop(bend == 1 ? Due.seed(8, 8, 8, -4) : Due.seed(8, 8, 8, -4, 8, 8));
            x.go(2);
            Due.is("a fall with bend " + bend, x.race(0, 3), bend == 1 ? 1 : 0);
            Due.is("DIST with bend " + bend, x.race(0, 0), bend == 1 ? 2 : 3);
        }
    }

    private static void bendByItsDraw() {
        Due.sentence("Terms 3: a number modulo 4 is drawn: if it is 0 the rider FALLS: PACE is 1, it goes no more");
        for (int drawn = 0; drawn < 4; drawn++) {
            RopeRace x = bends("run 2; bend 1;", 20, 2);
            x.drop(Due.seedOf(8, 1, 8, 1, 8, 1, 4, drawn));
            x.go(2);
            Due.is("without a rider by " + drawn, x.race(0, 3), drawn == 0 ? 1 : 0);
            Due.is("DIST by " + drawn, x.race(0, 0), drawn == 0 ? 2 : 3);
            Due.is("PACE by " + drawn, x.race(0, 2), drawn == 0 ? 1 : 2);
        }
    }

    private static void bendEachTime() {
        Due.sentence("Terms 3: Each time it comes into a CELL that is a BEND");
        RopeRace x = bends("run 2; bend 1;", 20, 2, 3, 4, 5, 6);
        x.drop(Due.seed(8, 8, 8, 4, 4, 8, 4, 4, 8, 4, 4, -4));
        x.go(2);
        Due.is("two bends each", x.race(0, 3) + x.race(1, 3), 0);
        x.go(1);
        Due.at("the third one of a tick", x, 0, 6, 0, 1);
        Due.is("it fell", x.race(0, 3), 1);
    }

    private static void bendWhereTheRingEnds() {
        Due.sentence("Terms 3: its CELL is DIST modulo L; a BEND at CELL 0 and L - 1");
        // Tick 5 goes from 9 to 12; the draw of a BEND comes at 12, of L - 1 at 11.
        RopeRace x = bends("run 2; bend 2; laps 2;", 12, 0);
        x.drop(Due.seed(8, 8, 8, 8, 8, 8, 8, 8, 8, -4, 8, 4));
        x.go(5);
        Due.at("falls at 12", x, 0, 12, 0, 1);
        Due.is("without a rider", x.race(0, 3), 1);
        Due.at("stays up at 12", x, 1, 12, 1, 3);
        RopeRace y = bends("run 2; bend 2; laps 2;", 12, 11);
        y.drop(Due.seed(8, 8, 8, 8, 8, 8, 8, 8, 8, -4, 8, 4));
        y.go(5);
        Due.at("falls at 11", y, 0, 11, 0, 1);
        Due.at("stays up at 11", y, 1, 12, 1, 3);
    }

    private static void bendWhereItBegins() {
        Due.sentence("Terms 3: Each time it comes into a CELL; where it begins it does not");
        RopeRace x = bends("run 2; bend 1;", 20, 0);
        x.drop(Due.calm(4));
        x.go(2);
        Due.at("no draw at the rope", x, 0, 3, 0, 2);
        Due.at("no draw at the rope", x, 1, 3, 1, 2);
        // Place 8 comes from DIST -1 into 0 with a PACE of 2, behind nine other draws of each tick.
        RopeRace y = Due.town("run 9; bend 1;", 9, 0, 0, 0, 0, 0, 0, 0, 0, 0);
        y.bend(0, true);
        Due.prepare(y);
        int[] draws = new int[19];
        java.util.Arrays.fill(draws, 8);
        draws[18] = -4;
        y.drop(Due.seed(draws));
        y.go(2);
        Due.is("it fell", y.race(y.drawn(2, 8), 3), 1);
        Due.at("at 0", y, y.drawn(2, 8), 0, 0, 1);
    }

    private static void bendWithoutARider() {
        Due.sentence("Terms 3: a BEND, with a rider: a number is drawn; not without one");
        RopeRace x = bends("run 2; bend 1;", 20, 2, 3, 4);
        // Tick 2: both fall at 2. Tick 3: both go over 3 and 4; their draws are those of PACES alone.
        x.drop(Due.seed(8, 8, 8, -4, 8, -4, 8, 8));
        x.go(2);
        Due.at("falls at 2", x, 0, 2, 0, 1);
        Due.at("falls at 2", x, 1, 2, 1, 1);
        x.go(1);
        Due.at("goes on", x, 0, 4, 0, 2);
        Due.at("goes on", x, 1, 4, 1, 2);
    }

    private static void arrivesWithPaceLeft() {
        Due.sentence("Terms 3: When DIST is laps times L it has ARRIVED");
        for (int cells = 13; cells <= 15; cells++) {
            RopeRace x = Due.started("run 2;", cells, Due.calm(12), 0, 0);
            x.go(5);
            Due.is("at 12 it has not, of " + cells, x.race(0, 4), -1);
            x.go(1);
            Due.at("of " + cells, x, 0, cells, 0, 3);
            Due.is("it has", x.race(0, 4), 0);
            Due.is("over", x.count(1), 5);
        }
        RopeRace y = Due.started("run 2; laps 5;", 12, Due.calm(50), 0, 0);
        y.go(20);
        Due.at("a cell short", y, 0, 57, 0, 3);
        Due.is("it has not", y.race(0, 4), -1);
        y.go(1);
        Due.at("five laps", y, 0, 60, 0, 3);
    }

    private static void bendAheadOfArriving() {
        Due.sentence("Terms 3: (a BEND's draw comes ahead of that)");
        RopeRace x = bends("run 2; bend 2;", 12, 0);
        x.drop(Due.seed(8, 8, 8, 8, 8, 8, 8, 8, 8, -4, 8, 4));
        x.go(5);
        Due.at("falls and arrives", x, 0, 12, 0, 1);
        Due.is("without a rider", x.race(0, 3), 1);
        Due.is("as the first", x.race(0, 4), 0);
        Due.is("the second has won", x.won(), 1);
    }

    private static void arrivedIsOffTheRing() {
        Due.sentence("Terms 3: it has ARRIVED: it is off the ring");
        RopeRace x = Due.started("run 5;", 12, Due.calm(30), 0, 0, 0, 0, 0);
        x.go(400);
        for (int ward = 0; ward < 5; ward++) {
            Due.is("DIST of " + ward, x.race(ward, 0), 12);
            Due.is("LANE of " + ward, x.race(ward, 1), ward % 4);
            Due.is("bumps of " + ward, x.race(ward, 5), 0);
            Due.is("arrived as", x.race(ward, 4), ward);
        }
        Due.is("ticks", x.count(2), 6);
        // Off the ring it draws no more: ward 0 arrives in tick 5 of 12 cells, ward 1 loses pace by the next draw alone.
        RopeRace y = Due.started("run 2;", 12, losing(14, 3, 5, 7, 9, 11), 0, 0);
        y.go(5);
        Due.is("the first has arrived", y.race(0, 4), 0);
        Due.is("the second has not", y.race(1, 4), -1);
        Due.at("the second", y, 1, 5, 1, 1);
        y.go(1);
        Due.at("calm", y, 1, 7, 1, 2);
        Due.at("off the ring nothing changes", y, 0, 12, 0, 3);
    }
}
