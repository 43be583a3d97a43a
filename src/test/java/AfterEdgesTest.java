/** The edges that part 4 of the terms and promises 22 to 25 name, a sentence each. */
public final class AfterEdgesTest {
    public static void main(String[] args) {
        pactOfNoWard();
        pactOfBothTheSame();
        pactOfNoSuchN();
        pactLeastAndMost();
        pactForty();
        pactFortyAgain();
        pactElseNothing();
        pactsAreGone();
        pactsWait();
        punishOfNoneSuch();
        punishNotOver();
        punishWithoutBar();
        punishWithoutBarButBars();
        punishInTheBarYears();
        punishByBarOfThatYear();
        punishNoFewer();
        punishInTheLastYear();
        nextInARace();
        nextOfTheLastYear();
        nextOfAnyOtherStage();
        nextForgets();
        nextKeeps();
        countOfAnotherWhat();
        countHowFar();
        countTicks();
        Due.end();
    }

    /** Two of three wards run, no one loses pace: ward 0 has won behind five ticks. */
    private static RopeRace racing(String text) {
        RopeRace x = Due.town("run 2; " + text, 3, 0, 0);
        x.ring(12);
        Due.prepare(x);
        Due.is("drop", x.drop(Due.calm(20)), 0);
        return x;
    }

    private static RopeRace over(String text) {
        RopeRace x = racing(text);
        x.go(400);
        Due.is("won", x.won(), 0);
        return x;
    }

    private static void pactOfNoWard() {
        Due.sentence("Promise 22: NONE: no such WARDS");
        for (int ward : new int[] {Integer.MIN_VALUE, -1, 3, 16, 17, Integer.MAX_VALUE}) {
            Twin.refused("pact(" + ward + ", 1, 5)", () -> Due.stage(4), x -> x.pact(ward, 1, 5), -1);
            Twin.refused("pact(1, " + ward + ", 5)", () -> Due.stage(4), x -> x.pact(1, ward, 5), -1);
        }
    }

    private static void pactOfBothTheSame() {
        Due.sentence("Promise 22: NONE: both the same");
        for (int ward = 0; ward < 3; ward++) {
            int both = ward;
            Twin.refused("pact(" + ward + ", " + ward + ")", () -> Due.stage(4), x -> x.pact(both, both, 5), -1);
        }
    }

    private static void pactOfNoSuchN() {
        Due.sentence("Promise 22: NONE: no such n");
        for (int n : Due.beyond(1, 9999)) {
            Twin.refused("pact(1, 0, " + n + ")", () -> Due.stage(4), x -> x.pact(1, 0, n), -1);
        }
    }

    private static void pactLeastAndMost() {
        Due.sentence("Terms 4: n (1 .. 9999)");
        RopeRace x = racing("");
        Due.is("pact of 1", x.pact(0, 1, 1), 1);
        Due.is("pact of 9999", x.pact(0, 2, 9999), 2);
        x.go(400);
        Due.is("money of ward 0", x.look(0, 4), -10000);
        Due.is("money of ward 1", x.look(1, 4), 1);
        Due.is("money of ward 2", x.look(2, 4), 9999);
    }

    private static RopeRace forty() {
        RopeRace x = Due.stage(4);
        for (int i = 3; i <= 40; i++) {
            Due.is("pact " + i, x.pact(i % 2, 2, i), i);
        }
        Due.is("count(5)", x.count(5), 40);
        return x;
    }

    private static void pactForty() {
        Due.sentence("Terms 4: PACTS, at most 40; Promise 22: how many there are; NONE: there are 40");
        Twin.refused("one more", AfterEdgesTest::forty, x -> x.pact(1, 0, 5), -1);
        Twin.refused("one more of both the same", AfterEdgesTest::forty, x -> x.pact(1, 1, 5), -1);
        RopeRace x = racing("");
        for (int i = 1; i <= 40; i++) {
            x.pact(0, 1 + i % 2, 100 + i);
        }
        x.pact(0, 1, 9999);
        x.go(400);
        Due.is("the even ones", x.look(1, 4), 20 * 100 + 420);
        Due.is("the odd ones", x.look(2, 4), 20 * 100 + 400);
    }

    private static void pactFortyAgain() {
        Due.sentence("Terms 4: PACTS are gone then; 40 may be told again");
        RopeRace x = forty();
        x.go(400);
        Due.is("count(5)", x.count(5), 0);
        for (int i = 1; i <= 40; i++) {
            Due.is("pact " + i, x.pact(0, 1, 1), i);
        }
        Due.is("one more", x.pact(0, 1, 1), -1);
    }

    private static void pactElseNothing() {
        Due.sentence("Terms 4: when a race is over that the first one has WON, it pays n to the other one; else nothing");
        RopeRace x = racing("");
        x.pact(1, 0, 10);
        x.pact(1, 2, 10);
        x.pact(2, 0, 10);
        x.pact(2, 1, 10);
        x.go(400);
        for (int ward = 0; ward < 3; ward++) {
            Due.is("money of ward " + ward, x.look(ward, 4), 0);
        }
        // Both riders fall: none has won.
        RopeRace y = Due.town("run 2; bend 2;", 2, 0, 0);
        y.ring(12);
        y.bend(0, true);
        Due.prepare(y);
        y.pact(0, 1, 10);
        y.pact(1, 0, 20);
        y.drop(Due.seed(8, 8, 8, 8, 8, 8, 8, 8, 8, -4, 8, -4));
        y.go(400);
        Due.is("won", y.won(), -1);
        Due.is("money of ward 0", y.look(0, 4), 0);
        Due.is("money of ward 1", y.look(1, 4), 0);
        Due.is("pacts are gone all the same", y.count(5), 0);
    }

    private static void pactsAreGone() {
        Due.sentence("Terms 4: PACTS are gone then; and not ahead of it");
        RopeRace x = racing("laps 2;");
        x.pact(0, 1, 10);
        while (x.won() < 0) {
            Due.is("count(5)", x.count(5), 1);
            Due.is("not paid", x.look(1, 4), 0);
            x.go(1);
        }
        x.go(400);
        Due.is("count(5)", x.count(5), 0);
        Due.is("paid", x.look(1, 4), 10);
        x.next();
        Due.prepare(x);
        x.drop(Due.calm(20));
        x.go(400);
        Due.is("paid once", x.look(1, 4), 10);
        // Won, but the race goes on: nothing is paid yet.
        RopeRace y = Due.town("run 2; laps 2;", 2, 999, 0);
        y.ring(12);
        Due.prepare(y);
        y.pact(0, 1, 10);
        y.drop(Due.calm(20));
        y.go(7);
        Due.is("won", y.won(), 0);
        Due.is("it goes on", y.count(1), 4);
        Due.is("not paid", y.look(1, 4), 0);
        Due.is("a pact more", y.pact(0, 1, 20), 2);
        y.go(400);
        Due.is("both are paid", y.look(1, 4), 30);
    }

    private static void pactsWait() {
        Due.sentence("Terms 4: when a race is over; one of a later YEAR, or told at any time");
        for (int far : new int[] {0, 1, 2, 3, 5}) {
            RopeRace x = Due.stage(far);
            int before = x.count(5);
            Due.is("pact at " + far, x.pact(0, 1, 5), before + 1);
            x.next();
            Due.is("it stays", x.count(5), before + 1);
        }
        RopeRace y = over("");
        y.pact(0, 1, 5);
        Due.is("not paid by the race that was", y.look(1, 4), 0);
    }

    private static void punishOfNoneSuch() {
        Due.sentence("Promise 23: A WARD that ran; -2: none such");
        for (int ward : new int[] {Integer.MIN_VALUE, -1, 2, 3, 16, 17, Integer.MAX_VALUE}) {
            Twin.refused("punish(" + ward + ")", () -> Due.stage(5), x -> x.punish(ward), -2);
        }
    }

    private static void punishNotOver() {
        Due.sentence("Promise 23: -2: this YEAR's race isn't over");
        for (int far = 0; far <= 4; far++) {
            int stage = far;
            Twin.refused("punish(0) at " + far, () -> Due.stage(stage), x -> x.punish(0), -2);
        }
        Twin.refused("punish(0) in the next year", () -> {
            RopeRace x = Due.stage(5);
            x.next();
            return x;
        }, x -> x.punish(0), -2);
    }

    private static void punishWithoutBar() {
        Due.sentence("Promise 23: NONE without bar and bars");
        Twin.refused("punish(0) with bar 0", () -> over("bar 0;"), x -> x.punish(0), -1);
        Twin.refused("punish(1) without bar", () -> over(""), x -> x.punish(1), -1);
        RopeRace x = over("");
        x.punish(0);
        Due.is("look(0, 2)", x.look(0, 2), -1);
        x.next();
        x.choose(1);
        Due.is("it may run", x.drawn(0, 0), 0);
    }

    private static void punishWithoutBarButBars() {
        Due.sentence("Promise 23: the last YEAR in which it is BARRED; without bar, but with bars");
        RopeRace x = over("bar 3;");
        Due.is("bar 3", x.punish(0), 3);
        Due.tell(x, "bar 0;", 0);
        Due.is("bar 0", x.punish(0), 3);
        Due.is("look(0, 2)", x.look(0, 2), 3);
        Due.is("another one", x.punish(1), -1);
    }

    private static void punishInTheBarYears() {
        Due.sentence("Terms 4: BARRED in the bar YEARS behind that YEAR");
        for (int bar : new int[] {1, 2, 9}) {
            RopeRace x = over("bar " + bar + ";");
            Due.is("punish", x.punish(0), bar);
            for (int year = 1; year <= bar; year++) {
                x.next();
                x.choose(1);
                Due.is("bar " + bar + ": the first that runs in year " + year, x.drawn(0, 0), 1);
                Due.is("look(0, 2)", x.look(0, 2), bar);
            }
            x.next();
            x.choose(1);
            Due.is("bar " + bar + ": the first that runs behind them", x.drawn(0, 0), 0);
        }
    }

    private static void punishByBarOfThatYear() {
        Due.sentence("Terms 4: (bar of that YEAR)");
        RopeRace x = over("bar 2;");
        Due.tell(x, "bar 5;", 1);
        Due.is("in year 0", x.punish(0), 2);
        x.next();
        x.choose(1);
        x.pick();
        x.lots(1);
        x.drop(1);
        x.go(400);
        Due.is("in year 1", x.punish(1), 6);
        Due.is("the one of year 0", x.look(0, 2), 2);
    }

    private static void punishNoFewer() {
        Due.sentence("Terms 4: no fewer than it was already");
        RopeRace x = over("bar 5;");
        Due.is("bar 5", x.punish(0), 5);
        Due.is("bar 5 once more", x.punish(0), 5);
        Due.tell(x, "bar 4;", 0);
        Due.is("bar 4", x.punish(0), 5);
        Due.tell(x, "bar 6;", 0);
        Due.is("bar 6", x.punish(0), 6);
        Due.is("look(0, 2)", x.look(0, 2), 6);
    }

    private static void punishInTheLastYear() {
        Due.sentence("Terms 4: the bar YEARS behind that YEAR; behind YEAR 99");
        RopeRace x = Due.town("run 2; bar 9;", 2, 0, 0);
        for (int year = 1; year <= 99; year++) {
            x.next();
        }
        Due.prepare(x);
        x.drop(1);
        x.go(400);
        Due.is("punish in year 99", x.punish(0), 108);
        Due.is("look(0, 2)", x.look(0, 2), 108);
    }

    private static void nextInARace() {
        Due.sentence("Promise 24: NONE, and nothing happens: a race goes on");
        Twin.refused("next", () -> Due.stage(4), x -> x.next(), -1);
    }

    private static RopeRace lastYear() {
        RopeRace x = Due.town("run 2; bend 1;", 3, 0, 0);
        for (int year = 1; year <= 99; year++) {
            Due.is("next", x.next(), year);
        }
        x.choose(1);
        x.pick();
        x.lots(1);
        x.seen(0, x.drawn(2, 1));
        return x;
    }

    private static void nextOfTheLastYear() {
        Due.sentence("Promise 24: NONE, and nothing happens: it is YEAR 99");
        Twin.refused("next", AfterEdgesTest::lastYear, x -> x.next(), -1);
        RopeRace x = lastYear();
        x.next();
        Due.is("count(0)", x.count(0), 99);
        Due.is("count(1)", x.count(1), 3);
        Due.is("what was seen stays", x.drop(1), -2);
        x.drop(1);
        x.go(400);
        Due.is("next behind the race", x.next(), -1);
        Due.is("count(1)", x.count(1), 5);
        Due.is("ran in year 99", x.look(0, 1), 99);
    }

    private static void nextOfAnyOtherStage() {
        Due.sentence("Promise 24: The next YEAR comes: it");
        for (int far : new int[] {0, 1, 2, 3, 5}) {
            RopeRace x = Due.stage(far);
            Due.is("next at " + far, x.next(), 1);
            Due.is("count(0)", x.count(0), 1);
            Due.is("count(1)", x.count(1), 0);
            Due.is("choose", x.choose(1), 2);
        }
    }

    private static void nextForgets() {
        Due.sentence("Promise 24: (What was chosen and drawn is gone.)");
        RopeRace x = Due.stage(3);
        x.seen(0, x.drawn(2, 1));
        x.next();
        for (int what = 0; what < 3; what++) {
            Due.is("drawn(" + what + ", 0)", x.drawn(what, 0), -1);
        }
        Due.is("its horse", x.look(0, 0), -1);
        Due.is("pick", x.pick(), -1);
        Due.is("lots", x.lots(1), false);
        Due.is("drop", x.drop(1), -100);
        x.choose(1);
        x.pick();
        x.lots(1);
        Due.is("what was seen is gone", x.drop(1), 0);
    }

    private static void nextKeeps() {
        Due.sentence("Promise 24: What was chosen and drawn is gone; nothing else is");
        RopeRace x = over("bar 7;");
        x.punish(0);
        x.pact(1, 2, 5);
        Due.feed(x, "laps 4;");
        x.next();
        int[] counts = {1, 0, 0, 3, 2, 1, 1, 12};
        for (int what = 0; what < counts.length; what++) {
            Due.is("count(" + what + ")", x.count(what), counts[what]);
        }
        Due.is("look(0, 1)", x.look(0, 1), 0);
        Due.is("look(0, 2)", x.look(0, 2), 7);
        Due.is("law(4, 1)", x.law(4, 1), 7);
        Due.is("the tape", x.statute(7, 0), 1);
        Due.is("law(1, 1)", x.law(1, 1), 4);
    }

    private static void countOfAnotherWhat() {
        Due.sentence("Promise 25: NONE for another what");
        for (int what : Due.beyond(0, 7)) {
            Due.is("count(" + what + ")", Due.stage(4).count(what), -1);
        }
    }

    private static void countHowFar() {
        Due.sentence("Promise 25: 0 nothing, 1 CHOSEN, 2 PICKED, 3 LOTS are drawn, 4 a race goes on, 5 it is over");
        RopeRace x = Due.town("run 2;", 2, 0, 0);
        Due.is("at first", x.count(1), 0);
        x.choose(1);
        Due.is("behind choose", x.count(1), 1);
        x.pick();
        Due.is("behind pick", x.count(1), 2);
        x.lots(1);
        Due.is("behind lots", x.count(1), 3);
        x.seen(0, x.drawn(2, 1));
        x.drop(1);
        Due.is("behind a false start", x.count(1), 3);
        x.drop(1);
        Due.is("behind drop", x.count(1), 4);
        x.go(1);
        Due.is("behind a tick", x.count(1), 4);
        x.go(400);
        Due.is("behind the race", x.count(1), 5);
        x.next();
        Due.is("in the next year", x.count(1), 0);
    }

    private static void countTicks() {
        Due.sentence("Promise 25: 2 TICKS of the race; without one");
        for (int far = 0; far <= 3; far++) {
            Due.is("count(2) at " + far, Due.stage(far).count(2), 0);
        }
        RopeRace x = racing("");
        Due.is("at its beginning", x.count(2), 0);
        x.go(400);
        Due.is("behind it", x.count(2), 5);
        x.next();
        Due.is("in the next year", x.count(2), 0);
        Due.prepare(x);
        Due.is("ahead of its race", x.count(2), 0);
        x.drop(1);
        Due.is("at its beginning", x.count(2), 0);
    }
}
