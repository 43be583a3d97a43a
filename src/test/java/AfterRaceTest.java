/** Promises 22 to 25: pact, punish, next, count. */
public final class AfterRaceTest {
    public static void main(String[] args) {
        pactsArePaid();
        pactsWaitForARace();
        barsGrow();
        nextYears();
        counts();
        Due.end();
    }

    private static RopeRace racing(String text) {
        RopeRace x = Due.town(text, 3, 0, 0);
        Due.prepare(x);
        Due.is("drop", x.drop(Due.calm(20)), 0);
        return x;
    }

    private static void pactsArePaid() {
        RopeRace x = racing("run 2;");
        x.pact(0, 1, 30);
        x.pact(0, 2, 9999);
        x.pact(0, 1, 5);
        x.pact(1, 0, 1000);
        x.pact(2, 1, 1000);
        x.go(7);
        Due.is("not yet", x.look(1, 4), 0);
        Due.is("count(5)", x.count(5), 5);
        x.go(1);
        Due.is("won", x.won(), 0);
        Due.is("it pays all its own", x.look(0, 4), -10034);
        Due.is("twice", x.look(1, 4), 35);
        Due.is("one that doesn't run", x.look(2, 4), 9999);
        Due.is("they are gone", x.count(5), 0);
        x.pact(0, 1, 7);
        Due.is("told behind the race: not yet", x.look(1, 4), 35);
        x.next();
        Due.is("money stays", x.look(0, 4), -10034);
        Due.is("the pact, too", x.count(5), 1);
    }

    private static void pactsWaitForARace() {
        RopeRace x = Due.town("run 2; bend 1;", 2, 0, 0);
        x.pact(0, 1, 7);
        x.pact(1, 0, 9);
        Due.prepare(x);
        x.next();
        Due.is("a year without a race", x.count(5), 2);
        x.ring(12);
        x.bend(3, true);
        Due.prepare(x);
        // Both riders fall: none has won.
        x.drop(Due.seed(8, 8, 8, -4, 8, -4));
        x.go(400);
        Due.is("won", x.won(), -1);
        Due.is("nothing is paid", x.look(0, 4), 0);
        Due.is("but they are gone", x.count(5), 0);
    }

    private static void barsGrow() {
        RopeRace x = racing("run 2;");
        x.go(400);
        Due.is("without bar and bars", x.punish(0), -1);
        Due.tell(x, "bar 3;", 0);
        Due.is("bar 3", x.punish(0), 3);
        Due.tell(x, "bar 1;", 0);
        Due.is("no fewer than it was", x.punish(0), 3);
        Due.tell(x, "bar 0;", 0);
        Due.is("bar 0 with bars", x.punish(0), 3);
        Due.is("bar 0 without bars", x.punish(1), -1);
        Due.tell(x, "bar 9;", 1);
        Due.is("a later year's bar", x.punish(1), -1);
        Due.tell(x, "bar 9;", 0);
        Due.is("more than it was", x.punish(0), 9);
    }

    private static void nextYears() {
        RopeRace x = new RopeRace();
        for (int year = 1; year <= 99; year++) {
            Due.is("next", x.next(), year);
        }
        Due.is("next of 99", x.next(), -1);
        Due.is("count(0)", x.count(0), 99);
        RopeRace y = Due.town("run 2; apart 2;", 2, 0, 0);
        y.choose(1);
        Due.is("next behind choose", y.next(), 1);
        Due.is("count(1)", y.count(1), 0);
        y.choose(1);
        y.pick();
        Due.is("next behind pick", y.next(), 2);
        Due.prepare(y);
        y.seen(0, 1);
        Due.is("next behind lots", y.next(), 3);
        Due.is("its horse is gone", y.look(0, 0), -1);
        Due.prepare(y);
        Due.is("what was seen is gone", y.drop(1), 0);
        Due.is("next in the race", y.next(), -1);
        Due.is("count(0)", y.count(0), 3);
        Due.is("count(1)", y.count(1), 4);
        y.go(400);
        Due.is("next behind the race", y.next(), 4);
        Due.is("ticks are gone", y.count(2), 0);
        Due.is("wards stay", y.count(3), 2);
        Due.is("ran in year 3", y.look(0, 1), 3);
    }

    private static void counts() {
        RopeRace x = racing("run 2;");
        x.pact(0, 1, 1);
        x.go(4);
        int[] want = {0, 4, 4, 3, 2, 1, 1, 20};
        for (int what = 0; what < want.length; what++) {
            Due.is("count(" + what + ")", x.count(what), want[what]);
        }
        Due.is("count(-1)", x.count(-1), -1);
        Due.is("count(8)", x.count(8), -1);
    }
}
