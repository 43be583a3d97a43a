/** The edges that the START of part 2 of the terms and promises 14 to 18 name, a sentence each. */
public final class StartEdgesTest {
    public static void main(String[] args) {
        ringTooSmallOrLarge();
        ringLeastAndMost();
        ringWithoutBends();
        ringInARace();
        bendOfNoCell();
        bendFirstAndLast();
        bendOff();
        bendInARace();
        ordersOfNoWard();
        ordersOfBothTheSame();
        ordersOfNoSuchHow();
        ordersOfNone();
        ordersStay();
        ordersOfThoseWhoDoNotRun();
        seenNotNext();
        seenAtNoPlace();
        seenOfOneThatDoesNotRun();
        seenAtFirstAndLast();
        seenOwnIfNoneIsTold();
        dropNotNext();
        apartAtMost();
        apartNought();
        apartNineOfTen();
        placesStayInAStartThatCounts();
        falseForgetsSeen();
        oneFalseStartMore();
        falseNought();
        asManyAsFalse();
        moreThanFalse();
        oneByOneByNumbers();
        allToTheEnd();
        theLastStays();
        tenMoveUp();
        falseStartsOfThisYear();
        lawsAsTheyAreThen();
        bendAndLooseAsTheyAreThen();
        Due.end();
    }

    private static void ringTooSmallOrLarge() {
        Due.sentence("Terms 3: L 12 .. 60; Promise 14: false: no such L");
        for (int l : new int[] {Integer.MIN_VALUE, -12, -1, 0, 1, 11, 61, Integer.MAX_VALUE}) {
            Twin.refused("ring(" + l + ")", () -> Due.stage(0), x -> x.ring(l));
        }
    }

    private static void ringLeastAndMost() {
        Due.sentence("Promise 14: The ring has L CELLS: true");
        for (int l : new int[] {12, 13, 59, 60}) {
            RopeRace x = Due.town("run 2;", 2, 0, 0);
            Due.is("ring(" + l + ")", x.ring(l), true);
            Due.is("count(7)", x.count(7), l);
            Due.is("its last cell", x.bend(l - 1, false), true);
            Due.is("no cell behind it", x.bend(l, false), false);
            Due.prepare(x);
            x.drop(1);
            x.go(400);
            Due.is("a lap", x.race(0, 0), l);
        }
    }

    /** How many riders fall in twenty races by different seeds, five laps each at every pace above 1. */
    private static int falls(java.util.function.Consumer<RopeRace> lay) {
        int falls = 0;
        for (int seed = 0; seed < 20; seed++) {
            RopeRace x = Due.town("run 2; bend 1; laps 5;", 2, 0, 0);
            lay.accept(x);
            Due.prepare(x);
            x.drop(seed);
            x.go(400);
            falls += x.race(0, 3) + x.race(1, 3);
        }
        return falls;
    }

    private static void ringWithoutBends() {
        Due.sentence("Promise 14: without BENDS");
        Due.is("falls on bends", falls(x -> layBends(x, 60)) > 0, true);
        Due.is("falls on the same ring anew", falls(x -> {
            layBends(x, 60);
            x.ring(60);
        }), 0);
        Due.is("falls on a lesser ring", falls(x -> {
            layBends(x, 60);
            x.ring(12);
        }), 0);
        Due.is("falls on a greater ring behind a lesser one", falls(x -> {
            layBends(x, 60);
            x.ring(12);
            x.ring(60);
        }), 0);
    }

    private static void layBends(RopeRace x, int l) {
        x.ring(l);
        for (int cell = 0; cell < l; cell++) {
            x.bend(cell, true);
        }
    }

    private static void ringInARace() {
        Due.sentence("Promise 14: false: a race goes on");
        Twin.refused("ring(12)", () -> Due.stage(4), x -> x.ring(12));
        Twin.refused("ring(60)", () -> Due.stage(4), x -> x.ring(60));
        for (int far : new int[] {0, 1, 2, 3, 5}) {
            RopeRace x = Due.stage(far);
            Due.is("ring at " + far, x.ring(30), true);
            Due.is("count(7) at " + far, x.count(7), 30);
        }
        RopeRace x = Due.stage(3);
        Due.is("ring between lots and drop", x.ring(60), true);
        Due.is("drop", x.drop(1), 0);
        x.go(400);
        Due.is("it is run on that one", x.race(0, 0), 60);
    }

    private static void bendOfNoCell() {
        Due.sentence("Promise 15: false: none such");
        for (int cell : new int[] {Integer.MIN_VALUE, -12, -1, 12, 13, 20, 59, 60, Integer.MAX_VALUE}) {
            Twin.refused("bend(" + cell + ")", () -> Due.stage(0), x -> x.bend(cell, true));
        }
        RopeRace x = new RopeRace();
        x.ring(60);
        Due.is("bend(59)", x.bend(59, true), true);
        Due.is("bend(60)", x.bend(60, true), false);
        x.ring(12);
        Due.is("bend(59) of a lesser ring", x.bend(59, true), false);
    }

    private static void bendFirstAndLast() {
        Due.sentence("Promise 15: A CELL is a BEND: true; the first and the last one");
        Due.is("falls at cell 0", falls(x -> {
            x.ring(12);
            Due.is("bend(0)", x.bend(0, true), true);
        }) > 0, true);
        Due.is("falls at cell 11", falls(x -> {
            x.ring(12);
            Due.is("bend(11)", x.bend(11, true), true);
        }) > 0, true);
    }

    private static void bendOff() {
        Due.sentence("Promise 15: A CELL is a BEND, or not: true");
        Due.is("falls where there is a bend no more", falls(x -> {
            x.ring(12);
            Due.is("on", x.bend(7, true), true);
            Due.is("on once more", x.bend(7, true), true);
            Due.is("off", x.bend(7, false), true);
        }), 0);
        Due.is("falls where there was none", falls(x -> Due.is("off", x.bend(19, false), true)), 0);
    }

    private static void bendInARace() {
        Due.sentence("Promise 15: false: a race goes on");
        Twin.refused("bend(5, false)", () -> Due.stage(4), x -> x.bend(5, false));
        for (int cell = 0; cell < 12; cell++) {
            int told = cell;
            Twin.refused("bend(" + cell + ", true)", () -> Due.stage(4), x -> x.bend(told, true));
        }
        for (int far : new int[] {0, 1, 2, 3, 5}) {
            Due.is("bend at " + far, Due.stage(far).bend(3, true), true);
        }
    }

    private static void ordersOfNoWard() {
        Due.sentence("Promise 16: false: no such WARDS");
        for (int how = 1; how <= 2; how++) {
            int told = how;
            for (int ward : new int[] {Integer.MIN_VALUE, -1, 3, 16, 17, Integer.MAX_VALUE}) {
                Twin.refused("orders(" + ward + ", " + how + ", 1)", () -> Due.stage(3), x -> x.orders(ward, told, 1));
                Twin.refused("orders(0, " + how + ", " + ward + ")", () -> Due.stage(3), x -> x.orders(0, told, ward));
            }
        }
        Due.is("orders without wards", new RopeRace().orders(0, 0, 0), false);
        for (int ward : Due.beyond(0, 2)) {
            Due.is("none of no such ward " + ward, Due.stage(0).orders(ward, 0, 0), false);
        }
    }

    private static void ordersOfBothTheSame() {
        Due.sentence("Promise 16: false: both the same");
        Twin.refused("orders(0, 1, 0)", () -> Due.stage(3), x -> x.orders(0, 1, 0));
        Twin.refused("orders(0, 2, 0)", () -> Due.stage(3), x -> x.orders(0, 2, 0));
        Twin.refused("orders(2, 1, 2)", () -> Due.stage(3), x -> x.orders(2, 1, 2));
    }

    private static void ordersOfNoSuchHow() {
        Due.sentence("Promise 16: false: no such how");
        for (int how : Due.beyond(0, 2)) {
            Twin.refused("orders(0, " + how + ", 2)", () -> Due.stage(3), x -> x.orders(0, how, 2));
        }
    }

    /** Ward 0 is one ahead of ward 1, in lane 0 beside its lane 1, and goes into it if it is told to hinder. */
    private static RopeRace justAhead() {
        RopeRace x = Due.town("run 2;", 3, 999, 999);
        Due.prepare(x);
        x.drop(Due.seed(8, 8, 8, -8, 8, 8, 8, 8));
        x.go(2);
        Due.is("one ahead", x.race(0, 0) - x.race(1, 0), 1);
        return x;
    }

    private static int laneBehindATick(RopeRace x) {
        x.go(1);
        return x.race(0, 1);
    }

    private static void ordersOfNone() {
        Due.sentence("Promise 16: how 0 none (of 0 other isn't looked at)");
        for (int other : new int[] {Integer.MIN_VALUE, -1, 0, 1, 2, 3, 16, 17, Integer.MAX_VALUE}) {
            RopeRace x = justAhead();
            Due.is("hinder", x.orders(0, 1, 1), true);
            Due.is("orders(0, 0, " + other + ")", x.orders(0, 0, other), true);
            Due.is("it stays in its lane", laneBehindATick(x), 0);
        }
    }

    private static void ordersStay() {
        Due.sentence("Promise 16: They stay till others are told");
        RopeRace x = justAhead();
        x.orders(0, 1, 1);
        x.orders(0, 1, 3);
        x.orders(0, 3, 1);
        x.orders(0, 2, 0);
        Due.is("refused ones are no others", laneBehindATick(x), 1);
        RopeRace y = Due.town("run 2;", 2, 999, 999);
        y.orders(0, 1, 1);
        Due.prepare(y);
        y.drop(1);
        y.go(400);
        y.next();
        Due.prepare(y);
        y.drop(Due.seed(8, 8, 8, -8, 8, 8, 8, 8));
        y.go(2);
        Due.is("in the next year, too", laneBehindATick(y), 1);
        RopeRace z = justAhead();
        z.orders(0, 1, 1);
        z.orders(0, 2, 1);
        Due.is("help instead of hinder", laneBehindATick(z), 0);
        RopeRace v = justAhead();
        v.orders(0, 1, 1);
        v.orders(0, 1, 2);
        Due.is("another ward instead", laneBehindATick(v), 0);
    }

    private static void ordersOfThoseWhoDoNotRun() {
        Due.sentence("Promise 16: another WARD; one that doesn't run");
        RopeRace x = justAhead();
        Due.is("hinder one that doesn't run", x.orders(0, 1, 2), true);
        Due.is("it stays in its lane", laneBehindATick(x), 0);
        RopeRace y = justAhead();
        Due.is("one that doesn't run hinders", y.orders(2, 1, 1), true);
        Due.is("none goes into that lane", laneBehindATick(y), 0);
    }

    private static void seenNotNext() {
        Due.sentence("Promise 17: false: not next (behind LOTS, ahead of the race)");
        for (int far : new int[] {0, 1, 2, 4, 5}) {
            Twin.refused("seen(0, 1) at " + far, () -> Due.stage(far), x -> x.seen(0, 1));
        }
        RopeRace x = Due.stage(3);
        x.seen(0, x.drawn(2, 1));
        x.drop(1);
        Due.is("behind a false start", x.seen(0, 0), true);
        x.next();
        Due.is("in the next year", x.seen(0, 0), false);
    }

    private static void seenAtNoPlace() {
        Due.sentence("Promise 17: false: no such place");
        for (int place : new int[] {Integer.MIN_VALUE, -1, 2, 9, 10, Integer.MAX_VALUE}) {
            Twin.refused("seen(" + place + ", 0)", () -> Due.stage(3), x -> x.seen(place, 0));
            Twin.refused("seen(" + place + ", 1)", () -> Due.stage(3), x -> x.seen(place, 1));
        }
    }

    private static void seenOfOneThatDoesNotRun() {
        Due.sentence("Promise 17: false: the WARD doesn't run");
        for (int ward : new int[] {Integer.MIN_VALUE, -1, 2, 3, 16, 17, Integer.MAX_VALUE}) {
            Twin.refused("seen(0, " + ward + ")", () -> Due.stage(3), x -> x.seen(0, ward));
        }
    }

    /** Ten run, ward k is at place rope[k]; apart and false as told. */
    private static RopeRace ten(String text) {
        RopeRace x = Due.town("run 10; " + text, 10, 0, 0, 0, 0, 0, 0, 0, 0, 0, 0);
        Due.prepare(x);
        return x;
    }

    /** The wards at the first places are seen one place further, the last of them at the first. */
    private static void shift(RopeRace x, int places) {
        for (int place = 0; place < places; place++) {
            Due.is("seen", x.seen((place + 1) % places, x.drawn(2, place)), true);
        }
    }

    private static void seenAtFirstAndLast() {
        Due.sentence("Promise 17: A WARD is SEEN at a place: true; the first and the last place");
        RopeRace x = ten("");
        int first = x.drawn(2, 0);
        int last = x.drawn(2, 9);
        Due.is("seen(0, ..)", x.seen(0, last), true);
        Due.is("seen(9, ..)", x.seen(9, first), true);
        Due.is("drop", x.drop(1), -3);
        Due.is("false starts of the first", x.look(first, 3), 1);
        Due.is("false starts of the last", x.look(last, 3), 1);
    }

    private static void seenOwnIfNoneIsTold() {
        Due.sentence("Terms 2: for each place the WARD that is SEEN there (its own one, if none is told)");
        Due.is("none is told", ten("").drop(1), 0);
        RopeRace x = ten("");
        for (int place = 0; place < 10; place++) {
            x.seen(place, x.drawn(2, place));
        }
        Due.is("its own ones are told", x.drop(1), 0);
        RopeRace y = ten("");
        y.seen(4, y.drawn(2, 5));
        y.seen(4, y.drawn(2, 4));
        Due.is("its own one told last", y.drop(1), 0);
        RopeRace z = ten("");
        z.seen(4, z.drawn(2, 4));
        z.seen(4, z.drawn(2, 5));
        Due.is("another one told last", z.drop(1), -2);
    }

    private static void dropNotNext() {
        Due.sentence("Promise 18: -100: not next");
        for (int far : new int[] {0, 1, 2, 4, 5}) {
            Twin.refused("drop at " + far, () -> Due.stage(far), x -> x.drop(5), -100);
        }
    }

    private static void apartAtMost() {
        Due.sentence("Terms 2: if as many places as apart says at most have another WARD than theirs, it counts");
        for (int apart = 2; apart <= 9; apart++) {
            for (int others = 2; others <= 10; others++) {
                RopeRace x = ten("apart " + apart + ";");
                shift(x, others);
                boolean counts = others <= apart;
                Due.is("apart " + apart + ", others " + others, x.drop(1), counts ? others : -1 - others);
                Due.is("count(1)", x.count(1), counts ? 4 : 3);
            }
        }
    }

    private static void apartNought() {
        Due.sentence("Terms 2: as apart says at most; none and one");
        RopeRace x = ten("");
        x.seen(3, x.drawn(2, 4));
        Due.is("one, and apart 0", x.drop(1), -2);
        Due.is("none, and apart 0", x.drop(1), 0);
        RopeRace y = ten("apart 1;");
        y.seen(3, y.drawn(2, 4));
        Due.is("one, and apart 1", y.drop(1), 1);
    }

    private static void apartNineOfTen() {
        Due.sentence("Promise 18: how many places have another WARD than theirs, less 1 and that number if it is FALSE; all");
        RopeRace x = ten("apart 9;");
        shift(x, 10);
        Due.is("ten of nine", x.drop(1), -11);
        shift(x, 9);
        Due.is("nine of nine", x.drop(1), 9);
        RopeRace y = ten("apart 9;");
        int same = y.drawn(2, 0);
        for (int place = 0; place < 10; place++) {
            y.seen(place, same);
        }
        Due.is("one ward at all places", y.drop(1), 9);
    }

    private static void placesStayInAStartThatCounts() {
        Due.sentence("Terms 3: The one at place k begins; behind a start that counts with another SEEN there");
        RopeRace x = ten("apart 2;");
        int first = x.drawn(2, 0);
        int second = x.drawn(2, 1);
        shift(x, 2);
        Due.is("drop", x.drop(1), 2);
        Due.is("the places stay", x.drawn(2, 0), first);
        Due.is("lane of the first", x.race(first, 1), 0);
        Due.is("lane of the second", x.race(second, 1), 1);
        Due.is("no false start", x.look(first, 3) + x.look(second, 3), 0);
    }

    private static void falseForgetsSeen() {
        Due.sentence("Terms 2: Else it is FALSE: what was SEEN is forgotten");
        RopeRace x = ten("");
        shift(x, 10);
        Due.is("false", x.drop(1), -11);
        Due.is("how far", x.count(1), 3);
        Due.is("what was seen is forgotten", x.drop(1), 0);
    }

    private static void oneFalseStartMore() {
        Due.sentence("Terms 2: each WARD that wasn't SEEN at its place has one FALSE start more");
        RopeRace x = ten("");
        int first = x.drawn(2, 0);
        int second = x.drawn(2, 1);
        int third = x.drawn(2, 2);
        for (int times = 1; times <= 12; times++) {
            x.seen(0, second);
            x.seen(2, third);
            x.drop(1);
            Due.is("another was seen at its place", x.look(first, 3), times);
            Due.is("it was seen at another's place and not elsewhere", x.look(second, 3), 0);
            Due.is("it was seen at its own", x.look(third, 3), 0);
        }
    }

    private static void falseNought() {
        Due.sentence("Terms 2: as many as false says (if that is above 0)");
        RopeRace x = ten("false 0;");
        int[] rope = new int[10];
        for (int k = 0; k < 10; k++) {
            rope[k] = x.drawn(2, k);
        }
        for (int times = 1; times <= 3; times++) {
            shift(x, 10);
            x.drop(1);
            for (int k = 0; k < 10; k++) {
                Due.is("place " + k, x.drawn(2, k), rope[k]);
                Due.is("false starts", x.look(k, 3), times);
            }
        }
    }

    /** Five run, ward k at place k. */
    private static RopeRace five(String text) {
        RopeRace x = Due.town("run 5; " + text, 5, 0, 0, 0, 0, 0);
        Due.prepare(x);
        rope("lots in order", x, 0, 1, 2, 3, 4);
        return x;
    }

    private static void rope(String when, RopeRace x, int... want) {
        for (int k = 0; k < want.length; k++) {
            Due.is(when + ": place " + k, x.drawn(2, k), want[k]);
        }
    }

    /** A start in which these places' wards alone aren't seen there. */
    private static void falseStart(RopeRace x, int... places) {
        for (int place : places) {
            x.seen(place, x.drawn(2, (place + 1) % 5));
        }
        Due.is("false start", x.drop(1), -1 - places.length);
    }

    private static void asManyAsFalse() {
        Due.sentence("Terms 2: those who have as many as false says go to the end of the rope and have none");
        for (int limit : new int[] {1, 2, 9}) {
            RopeRace x = five("false " + limit + ";");
            for (int times = 1; times < limit; times++) {
                falseStart(x, 1);
                rope("one too few", x, 0, 1, 2, 3, 4);
                Due.is("false starts", x.look(1, 3), times);
            }
            falseStart(x, 1);
            rope("as many", x, 0, 2, 3, 4, 1);
            Due.is("it has none", x.look(1, 3), 0);
        }
    }

    private static void moreThanFalse() {
        Due.sentence("Terms 2: or more");
        RopeRace x = five("");
        falseStart(x, 0);
        falseStart(x, 0);
        falseStart(x, 0, 1);
        Due.tell(x, "false 2;", 0);
        falseStart(x, 2);
        rope("three of two", x, 1, 2, 3, 4, 0);
        Due.is("it has none", x.look(0, 3), 0);
        Due.is("one of two", x.look(1, 3), 1);
        Due.is("one of two", x.look(2, 3), 1);
    }

    private static void oneByOneByNumbers() {
        Due.sentence("Terms 2: go to the end of the rope one by one, by numbers; the others move up");
        RopeRace x = five("false 1;");
        falseStart(x, 0);
        rope("the first", x, 1, 2, 3, 4, 0);
        falseStart(x, 1, 4);
        rope("wards 2 and 0: by numbers, not places", x, 1, 3, 4, 0, 2);
        falseStart(x, 0, 1, 2);
        rope("wards 1, 3 and 4", x, 0, 2, 1, 3, 4);
    }

    private static void allToTheEnd() {
        Due.sentence("Terms 2: go to the end of the rope one by one, by numbers; all of them");
        RopeRace x = five("false 1;");
        falseStart(x, 2);
        rope("one", x, 0, 1, 3, 4, 2);
        falseStart(x, 0, 1, 2, 3, 4);
        rope("all stand by numbers", x, 0, 1, 2, 3, 4);
        for (int ward = 0; ward < 5; ward++) {
            Due.is("false starts of " + ward, x.look(ward, 3), 0);
        }
    }

    private static void theLastStays() {
        Due.sentence("Terms 2: go to the end of the rope; the one that is there");
        RopeRace x = five("false 1;");
        falseStart(x, 4);
        rope("it stays", x, 0, 1, 2, 3, 4);
        Due.is("it has none", x.look(4, 3), 0);
    }

    private static void tenMoveUp() {
        Due.sentence("Terms 2: go to the end of the rope; the others move up; of the most that may run");
        RopeRace x = ten("false 1;");
        int[] rope = new int[10];
        for (int k = 0; k < 10; k++) {
            rope[k] = x.drawn(2, k);
        }
        x.seen(0, rope[1]);
        Due.is("false start", x.drop(1), -2);
        for (int k = 0; k < 10; k++) {
            Due.is("place " + k, x.drawn(2, k), rope[(k + 1) % 10]);
        }
    }

    private static void falseStartsOfThisYear() {
        Due.sentence("Promise 13: FALSE starts this YEAR");
        RopeRace x = five("false 2;");
        falseStart(x, 1);
        Due.is("this year", x.look(1, 3), 1);
        x.next();
        Due.is("the next year", x.look(1, 3), 0);
        Due.prepare(x);
        falseStart(x, 1);
        rope("those of last year don't count", x, 0, 1, 2, 3, 4);
        Due.is("one", x.look(1, 3), 1);
    }

    private static void lawsAsTheyAreThen() {
        Due.sentence("Terms 2: the race begins, by laps, bend, loose as they are then");
        RopeRace x = Due.town("run 2; laps 3;", 2, 0, 0);
        x.ring(12);
        Due.prepare(x);
        Due.tell(x, "laps 2;", 0);
        Due.tell(x, "laps 5;", 1);
        x.drop(Due.calm(30));
        Due.tell(x, "laps 1;", 0);
        x.go(5);
        Due.is("one lap isn't the end", x.race(0, 4), -1);
        x.go(400);
        Due.is("two laps are", x.race(0, 0), 24);
        Due.is("it is won", x.won(), 0);
    }

    private static void bendAndLooseAsTheyAreThen() {
        Due.sentence("Terms 2: the race begins, by bend, loose as they are then");
        for (int loose = 0; loose <= 1; loose++) {
            RopeRace x = Due.town("run 2; bend 9; loose " + (1 - loose) + ";", 2, 0, 0);
            x.ring(12);
            x.bend(0, true);
            Due.prepare(x);
            Due.tell(x, "bend 2; loose " + loose + ";", 0);
            // In tick 5 both come to the end with a PACE of 3: both riders fall.
            x.drop(Due.seed(8, 8, 8, 8, 8, 8, 8, 8, 8, -4, 8, -4));
            Due.tell(x, "bend 3; loose " + (1 - loose) + ";", 0);
            x.go(400);
            Due.is("falls", x.race(0, 3) + x.race(1, 3), 2);
            Due.is("won with loose " + loose, x.won(), loose == 1 ? 0 : -1);
        }
    }
}
