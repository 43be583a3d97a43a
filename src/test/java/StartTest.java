/** Promises 14 to 18: ring, bend, orders, seen, drop. */
public final class StartTest {
    public static void main(String[] args) {
        bends();
        startThatCounts();
        falseStarts();
        falseStartsByLawOfNow();
        toTheEndOfTheRope();
        Due.end();
    }

    /** Both horses come to cell 1 with a pace of 1, to cell 3 with 2; draws say that a rider would fall. */
    private static int fallsInTwoTicks(RopeRace x) {
        Due.prepare(x);
        Due.is("drop", x.drop(Due.seed(8, 8, 8, -4, 8, -4)), 0);
        x.go(2);
        return x.race(0, 3) + x.race(1, 3);
    }

    private static void bends() {
        RopeRace x = Due.town("run 2; bend 1;", 2, 0, 0);
        x.ring(12);
        Due.is("bend(-1)", x.bend(-1, true), false);
        Due.is("bend(12)", x.bend(12, true), false);
        Due.is("bend(11)", x.bend(11, true), true);
        Due.is("bend(11, false)", x.bend(11, false), true);
        Due.is("bend(3)", x.bend(3, true), true);
        Due.is("both fall", fallsInTwoTicks(x), 2);
        Due.is("bend in the race", x.bend(3, false), false);
        x.go(400);
        Due.is("bend behind the race", x.bend(4, false), true);
        x.next();
        Due.is("bends stay", fallsInTwoTicks(x), 2);
        x.go(400);
        x.next();
        Due.is("bend(3, false)", x.bend(3, false), true);
        Due.is("no bend", fallsInTwoTicks(x), 0);
        x.go(400);
        x.next();
        x.bend(3, true);
        Due.is("the same ring anew", x.ring(12), true);
        Due.is("without bends", fallsInTwoTicks(x), 0);
    }

    private static void startThatCounts() {
        RopeRace x = Due.town("run 3; apart 2;", 3, 1, 2, 3);
        Due.is("drop ahead of choose", x.drop(1), -100);
        x.choose(1);
        Due.is("drop ahead of pick", x.drop(1), -100);
        x.pick();
        Due.is("drop ahead of lots", x.drop(1), -100);
        x.next();
        Due.prepare(x);
        x.seen(0, 1);
        x.seen(1, 0);
        x.seen(2, 1);
        x.seen(2, 2);
        Due.is("drop with two others", x.drop(1), 2);
        Due.is("count(1)", x.count(1), 4);
        Due.is("places are as they were", x.drawn(2, 0), 0);
        Due.is("ward 0 is in lane 0", x.race(0, 1), 0);
        Due.is("ward 1 is in lane 1", x.race(1, 1), 1);
        Due.is("no false start", x.look(0, 3), 0);
        Due.is("ran this year", x.look(0, 1), 1);
        Due.is("drop in the race", x.drop(1), -100);
        x.go(400);
        Due.is("drop behind the race", x.drop(1), -100);
    }

    private static void falseStarts() {
        RopeRace x = Due.town("run 4; apart 1;", 5, 1, 2, 3, 4);
        Due.tell(x, "run 3;", 0);
        Due.prepare(x);
        int a = x.drawn(2, 0);
        int b = x.drawn(2, 1);
        int c = x.drawn(2, 2);
        x.seen(0, c);
        x.seen(1, a);
        Due.is("two others, one may be", x.drop(1), -3);
        Due.is("count(1)", x.count(1), 3);
        Due.is("first", x.look(a, 3), 1);
        Due.is("second", x.look(b, 3), 1);
        Due.is("the third's place is its own", x.look(c, 3), 0);
        Due.is("it has not run", x.look(a, 1), -1);
        x.seen(0, b);
        x.seen(1, a);
        x.seen(2, a);
        Due.is("three others", x.drop(1), -4);
        Due.is("first", x.look(a, 3), 2);
        Due.is("third", x.look(c, 3), 1);
        Due.is("without a limit the places stay", x.drawn(2, 0), a);
        Due.is("without a limit the places stay", x.drawn(2, 2), c);
        Due.is("what was seen is forgotten", x.drop(1), 0);
        x.go(400);
        Due.is("they stay this year", x.look(a, 3), 2);
        x.next();
        Due.is("none in the next year", x.look(a, 3), 0);
    }

    private static void falseStartsByLawOfNow() {
        RopeRace x = Due.town("run 3;", 3, 1, 2, 3);
        Due.prepare(x);
        x.seen(0, 1);
        Due.is("drop", x.drop(1), -2);
        Due.tell(x, "false 1;", 0);
        x.seen(1, 2);
        Due.is("drop", x.drop(1), -2);
        Due.is("ward 0 goes by its earlier one", x.drawn(2, 1), 0);
        Due.is("ward 1 behind it", x.drawn(2, 2), 1);
        Due.is("ward 2 moves up", x.drawn(2, 0), 2);
        Due.tell(x, "apart 3;", 0);
        x.seen(0, 0);
        x.seen(1, 1);
        x.seen(2, 2);
        Due.is("drop by the new law", x.drop(1), 3);
        Due.is("count(1)", x.count(1), 4);
    }

    private static void toTheEndOfTheRope() {
        RopeRace x = Due.town("run 5; false 2;", 5, 1, 2, 3, 4, 5);
        Due.prepare(x);
        x.seen(3, 0);
        x.seen(1, 0);
        Due.is("drop", x.drop(1), -3);
        Due.is("one isn't two", x.look(3, 3), 1);
        Due.is("places stay", x.drawn(2, 1), 1);
        x.seen(3, 0);
        x.seen(1, 0);
        x.seen(0, 1);
        Due.is("drop", x.drop(1), -4);
        int[] places = {0, 2, 4, 1, 3};
        int[] starts = {1, 0, 0, 0, 0};
        for (int k = 0; k < 5; k++) {
            Due.is("drawn(2, " + k + ")", x.drawn(2, k), places[k]);
            Due.is("look(" + k + ", 3)", x.look(k, 3), starts[k]);
            Due.is("drawn(0, k) is by numbers", x.drawn(0, k), k);
        }
        Due.is("drop", x.drop(1), 0);
        Due.is("ward 3 begins one behind", x.race(3, 0), -1);
        Due.is("ward 3 begins in lane 0", x.race(3, 1), 0);
        Due.is("ward 1 begins in lane 3", x.race(1, 1), 3);
    }
}
