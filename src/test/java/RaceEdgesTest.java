import java.lang.reflect.Field;

/** The edges that promises 19 to 21 and the end of a race in part 3 of the terms name, a sentence each. */
public final class RaceEdgesTest {
    public static void main(String[] args) throws ReflectiveOperationException {
        goOfNoSuchN();
        goWithoutARace();
        goLeastAndMost();
        goToTheEnd();
        raceOfNoneSuch();
        raceOfOneOfLastYear();
        raceOfNoneBesideTen();
        raceOfAnotherWhat();
        raceNotYetOrInAnotherYear();
        raceArrivedAsNone();
        firstWithARiderHasWon();
        orWithoutIfLoose();
        noneHasWon();
        wonNotYet();
        wonAheadOfTheEnd();
        wonInAnotherYear();
        overWhenAllHaveArrived();
        overBehindFourHundredTicks();
        overBehindFourHundredTicksWithAWinner();
        Due.end();
    }

    /** Two wards on horses of these marks, no one of which loses pace. */
    private static RopeRace calm(String text, int first, int second) {
        RopeRace x = Due.town(text, 3, first, second);
        x.ring(12);
        Due.prepare(x);
        Due.is("drop", x.drop(Due.calm(30)), 0);
        return x;
    }

    private static void goOfNoSuchN() {
        Due.sentence("Promise 19: n at most (1 .. 400); NONE: no such n");
        for (int n : Due.beyond(1, 400)) {
            Twin.refused("go(" + n + ")", () -> Due.stage(4), x -> x.go(n), -1);
        }
    }

    private static void goWithoutARace() {
        Due.sentence("Promise 19: NONE: no race goes on");
        for (int far : new int[] {0, 1, 2, 3, 5}) {
            Twin.refused("go(1) at " + far, () -> Due.stage(far), x -> x.go(1), -1);
            Twin.refused("go(400) at " + far, () -> Due.stage(far), x -> x.go(400), -1);
        }
        RopeRace x = Due.stage(5);
        x.next();
        Due.is("go in the next year", x.go(1), -1);
    }

    private static void goLeastAndMost() {
        Due.sentence("Promise 19: TICKS, n at most (1 .. 400)");
        RopeRace x = calm("run 2; laps 5;", 0, 0);
        Due.is("go(1)", x.go(1), 1);
        Due.is("count(2)", x.count(2), 1);
        Due.is("DIST", x.race(0, 0), 1);
        Due.is("go(2)", x.go(2), 2);
        Due.is("count(2)", x.count(2), 3);
        Due.is("DIST", x.race(0, 0), 6);
        Due.is("go(400)", x.go(400) > 0, true);
        Due.is("count(1)", x.count(1), 5);
    }

    private static void goToTheEnd() {
        Due.sentence("Promise 19: till the race is over: how many were done");
        RopeRace x = calm("run 2;", 0, 0);
        Due.is("go(5): just to the end", x.go(5), 5);
        Due.is("count(1)", x.count(1), 5);
        RopeRace y = calm("run 2;", 0, 0);
        Due.is("go(6): one too many", y.go(6), 5);
        Due.is("count(2)", y.count(2), 5);
        RopeRace z = calm("run 2;", 0, 0);
        Due.is("go(4): one too few", z.go(4), 4);
        Due.is("count(1)", z.count(1), 4);
        Due.is("the last one", z.go(400), 1);
        Due.is("count(1)", z.count(1), 5);
        Due.is("count(2)", z.count(2), 5);
    }

    private static void raceOfNoneSuch() {
        Due.sentence("Promise 20: Of a WARD that runs; -100: none such");
        for (int far = 4; far <= 5; far++) {
            RopeRace x = Due.stage(far);
            for (int what = 0; what < 6; what++) {
                for (int ward : new int[] {Integer.MIN_VALUE, -1, 2, 3, 16, 17, Integer.MAX_VALUE}) {
                    Due.is("race(" + ward + ", " + what + ")", x.race(ward, what), -100);
                }
            }
            x.ward();
            Due.is("a later ward", x.race(3, 0), -100);
        }
    }

    private static void raceOfOneOfLastYear() {
        Due.sentence("Promise 20: Of a WARD that runs in the race that goes on; one that ran last YEAR alone");
        RopeRace y = Due.stage(5);
        y.next();
        y.choose(1);
        y.pick();
        y.lots(1);
        y.drop(1);
        Due.is("ward 0 runs again", y.race(0, 2), 0);
        Due.is("ward 1 does not", y.race(1, 2), -100);
        Due.is("ward 2 does", y.race(2, 2), 0);
        // Fewer run than last year, without the one that was last at the rope.
        RopeRace x = Due.town("run 3; bar 1;", 3, 0, 0, 0);
        Due.prepare(x);
        x.drop(1);
        x.go(400);
        x.punish(2);
        x.next();
        Due.prepare(x);
        Due.is("drop", x.drop(1), 0);
        Due.is("ward 1 runs again", x.race(1, 2), 0);
        Due.is("ward 2 does not", x.race(2, 2), -100);
    }

    private static void raceOfNoneBesideTen() {
        Due.sentence("Promise 20: -100: none such; when the most run that may");
        RopeRace x = Due.town("run 10;", 17, 0, 0, 0, 0, 0, 0, 0, 0, 0, 0);
        Due.prepare(x);
        Due.is("drop", x.drop(1), 0);
        int running = 0;
        for (int ward = -1; ward <= 17; ward++) {
            running += x.race(ward, 2) == 0 ? 1 : 0;
        }
        Due.is("wards that run", running, 10);
    }

    private static void raceOfAnotherWhat() {
        Due.sentence("Promise 20: -100: none such; no such what");
        for (int what : Due.beyond(0, 5)) {
            Due.is("race(0, " + what + ")", Due.stage(4).race(0, what), -100);
            Due.is("race(0, " + what + ") of one that is over", Due.stage(5).race(0, what), -100);
        }
    }

    private static void raceNotYetOrInAnotherYear() {
        Due.sentence("Promise 20: in the race that goes on, or went this YEAR");
        for (int far = 0; far <= 5; far++) {
            Due.is("race(0, 2) at " + far, Due.stage(far).race(0, 2) == -100, far < 4);
        }
        RopeRace x = Due.stage(5);
        x.next();
        Due.is("race(0, 2) in the next year", x.race(0, 2), -100);
        x.choose(1);
        x.pick();
        x.lots(1);
        Due.is("race(0, 2) ahead of the next race", x.race(0, 2), -100);
        x.seen(0, x.drawn(2, 1));
        x.drop(1);
        Due.is("race(0, 2) behind a false start", x.race(0, 2), -100);
    }

    private static void raceArrivedAsNone() {
        Due.sentence("Promise 20: as which it ARRIVED (0 the first; NONE)");
        RopeRace x = calm("run 2;", 0, 999);
        x.go(3);
        Due.is("not yet", x.race(0, 4), -1);
        Due.is("not yet", x.race(1, 4), -1);
        x.go(400);
        Due.is("ward 1 as the first", x.race(1, 4), 0);
        Due.is("ward 0 as the second", x.race(0, 4), 1);
        RopeRace y = Due.town("run 10;", 10, 0, 0, 0, 0, 0, 0, 0, 0, 0, 0);
        Due.prepare(y);
        y.drop(1);
        y.go(400);
        boolean[] as = new boolean[10];
        for (int ward = 0; ward < 10; ward++) {
            as[y.race(ward, 4)] = true;
        }
        for (int k = 0; k < 10; k++) {
            Due.is("one arrived as " + k, as[k], true);
        }
    }

    /** Both horses come to the end in tick 5, with a bend there: ward 0's rider falls, ward 1's as it is told. */
    private static RopeRace fallsAtTheEnd(String text, boolean both) {
        RopeRace x = Due.town("run 2; bend 2; " + text, 2, 0, 0);
        x.ring(12);
        x.bend(0, true);
        Due.prepare(x);
        x.drop(Due.seed(8, 8, 8, 8, 8, 8, 8, 8, 8, -4, 8, both ? -4 : 4));
        x.go(5);
        Due.is("over", x.count(1), 5);
        Due.is("ward 0 is the first", x.race(0, 4), 0);
        Due.is("without a rider", x.race(0, 3), 1);
        Due.is("whether ward 1 is without one", x.race(1, 3), both ? 1 : 0);
        return x;
    }

    private static void firstWithARiderHasWon() {
        Due.sentence("Terms 3: The first to ARRIVE with a rider has WON");
        Due.is("the second one", fallsAtTheEnd("", false).won(), 1);
        Due.is("the second one with loose 0", fallsAtTheEnd("loose 0;", false).won(), 1);
        RopeRace x = calm("run 2;", 0, 0);
        x.go(400);
        Due.is("of two with riders the first", x.won(), 0);
    }

    private static void orWithoutIfLoose() {
        Due.sentence("Terms 3: (or without, if loose is 1)");
        Due.is("the first one, ahead of one with a rider", fallsAtTheEnd("loose 1;", false).won(), 0);
        Due.is("the first one of two without", fallsAtTheEnd("loose 1;", true).won(), 0);
        RopeRace x = calm("run 2; loose 1;", 0, 0);
        x.go(400);
        Due.is("with a rider, too", x.won(), 0);
    }

    private static void noneHasWon() {
        Due.sentence("Promise 21: The WARD that has WON this YEAR; NONE: none has");
        Due.is("both without riders", fallsAtTheEnd("", true).won(), -1);
    }

    private static void wonNotYet() {
        Due.sentence("Promise 21: The WARD that has WON this YEAR; NONE: not yet");
        for (int far = 0; far <= 4; far++) {
            Due.is("won at " + far, Due.stage(far).won(), -1);
        }
    }

    private static void wonAheadOfTheEnd() {
        Due.sentence("Promise 21: The WARD that has WON; while the others still run");
        RopeRace x = calm("run 2;", 0, 999);
        x.go(4);
        Due.is("at 10 of 12", x.won(), -1);
        x.go(1);
        Due.is("the first has arrived", x.won(), 1);
    }

    private static void wonInAnotherYear() {
        Due.sentence("Promise 21: The WARD that has WON this YEAR; NONE: it was last YEAR");
        RopeRace x = calm("run 2;", 0, 0);
        x.go(400);
        Due.is("this year", x.won(), 0);
        x.next();
        Due.is("the next year", x.won(), -1);
        Due.prepare(x);
        Due.is("ahead of its race", x.won(), -1);
        x.drop(1);
        Due.is("at its beginning", x.won(), -1);
    }

    private static void overWhenAllHaveArrived() {
        Due.sentence("Terms 3: The race is over when all have ARRIVED");
        RopeRace x = calm("run 2; laps 2;", 0, 999);
        x.go(7);
        Due.is("one has arrived", x.race(1, 4), 0);
        Due.is("it goes on", x.count(1), 4);
        Due.is("next", x.next(), -1);
        Due.is("punish", x.punish(1), -2);
        Due.is("the other one arrives", x.go(400) > 0, true);
        Due.is("both have arrived", x.race(0, 4), 1);
        Due.is("it is over", x.count(1), 5);
    }

    /** No seed is known by which a race comes near 400 TICKS: they are set to a number just ahead of it. */
    private static void setTicks(RopeRace x, int ticks) throws ReflectiveOperationException {
        Field raceField = RopeRace.class.getDeclaredField("race");
        raceField.setAccessible(true);
        Object race = raceField.get(x);
        Field ticksField = race.getClass().getDeclaredField("ticks");
        ticksField.setAccessible(true);
        ticksField.setInt(race, ticks);
    }

    private static void overBehindFourHundredTicks() throws ReflectiveOperationException {
        Due.sentence("Terms 3: or behind 400 TICKS");
        RopeRace x = calm("run 2; laps 5; bar 3;", 0, 0);
        x.pact(0, 2, 30);
        x.go(1);
        setTicks(x, 397);
        Due.is("go(2)", x.go(2), 2);
        Due.is("count(2)", x.count(2), 399);
        Due.is("it goes on", x.count(1), 4);
        Due.is("go(400)", x.go(400), 1);
        Due.is("count(2)", x.count(2), 400);
        Due.is("it is over", x.count(1), 5);
        Due.is("DIST", x.race(0, 0), 9);
        Due.is("none has arrived", x.race(0, 4), -1);
        Due.is("none has won", x.won(), -1);
        Due.is("pacts are gone", x.count(5), 0);
        Due.is("nothing is paid", x.look(0, 4), 0);
        Due.is("go", x.go(1), -1);
        Due.is("punish", x.punish(0), 3);
        Due.is("next", x.next(), 1);
    }

    private static void overBehindFourHundredTicksWithAWinner() throws ReflectiveOperationException {
        Due.sentence("Terms 3: or behind 400 TICKS; with one that has WON");
        RopeRace x = calm("run 2; laps 2;", 999, 0);
        x.pact(0, 2, 30);
        x.go(6);
        setTicks(x, 399);
        Due.is("go(400)", x.go(400), 1);
        Due.is("it is over", x.count(1), 5);
        Due.is("the first has arrived", x.race(0, 4), 0);
        Due.is("the second has not", x.race(1, 4), -1);
        Due.is("won", x.won(), 0);
        Due.is("it has paid", x.look(0, 4), -30);
    }
}
