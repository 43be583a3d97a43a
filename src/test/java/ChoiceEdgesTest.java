/** The edges that part 2 of the terms, as far as LOTS, and promises 6 to 13 name, a sentence each. */
public final class ChoiceEdgesTest {
    private static final int[] MARKS_OF_TEN = {0, 0, 0, 0, 0, 0, 0, 0, 0, 0};

    public static void main(String[] args) {
        seventeenWards();
        marks();
        sixteenHorses();
        soundOfNone();
        soundOfAll();
        drawsWrapRound();
        drawsOfLotsWrapRound();
        runOfFewer();
        runOfTheChoice();
        belowTwo();
        belowTwoByBars();
        chooseOnce();
        lessAThird();
        neverAheadOfAll();
        lesserNumber();
        drawAmongThoseLeft();
        drawsInOrderOfNumbers();
        barredAreNotDrawn();
        pickNotNext();
        pickOfFewer();
        pickOfJustEnough();
        pickLeastSpread();
        pickFirstByNumbers();
        pickOfMostHorses();
        lotsNotNext();
        lotsOfTheLastLeft();
        lotsOfTen();
        drawnBeyondTheRows();
        drawnOfAnotherWhat();
        drawnNotYet();
        drawnInAnotherYear();
        lookAtNoWard();
        lookAtAnotherWhat();
        lookAtNothingYet();
        lookAtTheYearItRan();
        lookAtMoneyBelowNought();
        Due.end();
    }

    private static void row(String when, RopeRace x, int what, int... want) {
        for (int k = 0; k < want.length; k++) {
            Due.is(when + ": drawn(" + what + ", " + k + ")", x.drawn(what, k), want[k]);
        }
        Due.is(when + ": drawn(" + what + ") behind the last", x.drawn(what, want.length), -1);
    }

    private static void endRace(RopeRace x) {
        x.pick();
        x.lots(1);
        Due.is("drop", x.drop(1), 0);
        x.go(400);
    }

    private static void seventeenWards() {
        Due.sentence("Terms 2: WARDS, at most 17; Promise 6: its number; NONE: there are 17");
        RopeRace x = new RopeRace();
        for (int i = 0; i < 17; i++) {
            Due.is("ward " + i, x.ward(), i);
        }
        for (int i = 0; i < 3; i++) {
            Due.is("an eighteenth", x.ward(), -1);
        }
        Due.is("count(3)", x.count(3), 17);
        Due.is("the last one has no money", x.look(16, 4), 0);
        Due.is("orders of the last one", x.orders(16, 1, 0), true);
        Due.is("a pact of the last one", x.pact(0, 16, 1), 1);
        Due.is("none behind it", x.orders(17, 0, 0), false);
    }

    private static void marks() {
        Due.sentence("Terms 2: MARKS 0 .. 999; Promise 7: NONE: no such MARK");
        for (int mark : Due.beyond(0, 999)) {
            Twin.refused("horse(" + mark + ")", () -> Due.stage(0), x -> x.horse(mark), -1);
        }
        RopeRace x = Due.town("run 2;", 2);
        Due.is("mark 0", x.horse(0), 0);
        Due.is("mark 999", x.horse(999), 1);
        x.choose(1);
        Due.is("pick of both", x.pick(), 999);
    }

    private static RopeRace sixteen() {
        RopeRace x = Due.town("run 2;", 2);
        for (int i = 0; i < 16; i++) {
            Due.is("horse " + i, x.horse(60 * i), i);
        }
        return x;
    }

    private static void sixteenHorses() {
        Due.sentence("Terms 2: HORSES (at most 16 in all); Promise 7: NONE: there are 16");
        Twin.refused("a seventeenth", ChoiceEdgesTest::sixteen, x -> x.horse(0), -1);
        Twin.refused("a seventeenth of no mark", ChoiceEdgesTest::sixteen, x -> x.horse(1000), -1);
        RopeRace x = sixteen();
        x.sound(3, false);
        Due.is("those that aren't sound count", x.horse(0), -1);
        Due.is("count(4)", x.count(4), 16);
    }

    private static void soundOfNone() {
        Due.sentence("Promise 8: false: none such");
        for (int horse : new int[] {Integer.MIN_VALUE, -1, 3, 15, 16, 17, Integer.MAX_VALUE}) {
            Twin.refused("sound(" + horse + ")", () -> Due.stage(0), x -> x.sound(horse, false));
        }
        Twin.refused("sound(16) of sixteen", ChoiceEdgesTest::sixteen, x -> x.sound(16, false));
        Due.is("sound(0) without horses", new RopeRace().sound(0, true), false);
        RopeRace x = new RopeRace();
        x.sound(0, false);
        Due.is("the first horse", x.horse(5), 0);
        x.ward();
        x.ward();
        x.horse(5);
        x.choose(1);
        Due.is("a horse is sound at first", x.pick(), 0);
    }

    private static void soundOfAll() {
        Due.sentence("Promise 8: A HORSE is SOUND, or not: true");
        RopeRace x = sixteen();
        for (int horse = 0; horse < 16; horse++) {
            Due.is("not sound", x.sound(horse, false), true);
            Due.is("not sound once more", x.sound(horse, false), true);
        }
        x.choose(1);
        Due.is("pick of none", x.pick(), -1);
        Due.is("sound(15)", x.sound(15, true), true);
        Due.is("pick of one", x.pick(), -1);
        Due.is("sound(0)", x.sound(0, true), true);
        Due.is("sound(0) once more", x.sound(0, true), true);
        Due.is("pick of two", x.pick(), 900);
        row("two", x, 1, 0, 15);
    }

    private static void drawsWrapRound() {
        Due.sentence("Terms 2: x becomes 1103515245 x + 12345 (32 bits, round); the number is x >> 16 & 32767");
        // By hand, for choose() of 3 among 17, the first number modulo 15, behind wards 0 and 1.
        int[] seeds = {0, 1, -1, Integer.MAX_VALUE, Integer.MIN_VALUE, 123456789, -987654321};
        int[] firsts = {0, 16838, 15929, 15929, 0, 3536, 16769};
        for (int i = 0; i < seeds.length; i++) {
            RopeRace x = Due.town("run 3;", 17);
            Due.is("choose(" + seeds[i] + ")", x.choose(seeds[i]), 3);
            row("seed " + seeds[i], x, 0, 0, 1, 2 + firsts[i] % 15);
        }
    }

    private static void drawsOfLotsWrapRound() {
        Due.sentence("Terms 2: 32 bits, round; the numbers behind the first");
        // 15929 % 3 = 2, 4409 % 2 = 1, 9862 % 1 = 0; 26718 % 3 = 0, 8713 % 2 = 1.
        for (int seed : new int[] {-1, Integer.MAX_VALUE}) {
            RopeRace x = Due.town("run 3;", 3, 1, 2, 3);
            x.choose(1);
            x.pick();
            x.lots(seed);
            Due.is("look(0, 0)", x.look(0, 0), 2);
            Due.is("look(1, 0)", x.look(1, 0), 1);
            Due.is("look(2, 0)", x.look(2, 0), 0);
            row("seed " + seed, x, 2, 0, 2, 1);
        }
    }

    private static void runOfFewer() {
        Due.sentence("Terms 2: RUN is run, or how many WARDS aren't BARRED, if they are fewer");
        for (int wards = 2; wards <= 17; wards++) {
            for (int run = 2; run <= 10; run++) {
                RopeRace x = Due.town("run " + run + ";", wards);
                int want = Math.min(run, wards);
                Due.is("choose: run " + run + " of " + wards, x.choose(1), want);
                Due.is("the last one that runs", x.drawn(0, want - 1) >= want - 1, true);
                Due.is("none behind it", x.drawn(0, want), -1);
            }
        }
    }

    private static void runOfTheChoice() {
        Due.sentence("Terms 2: RUN is run; as it is when they are chosen");
        RopeRace x = Due.town("run 3;", 5, 1, 2, 3, 4);
        Due.tell(x, "run 9;", 1);
        Due.is("choose", x.choose(Due.seedOf(3, 0)), 3);
        Due.tell(x, "run 2;", 0);
        x.ward();
        row("chosen", x, 0, 0, 1, 2);
        Due.is("pick", x.pick(), 2);
        row("picked", x, 1, 0, 1, 2);
    }

    private static void belowTwo() {
        Due.sentence("Terms 2: (below 2: refused); Promise 9: NONE: is refused");
        Twin.refused("choose without wards", RopeRace::new, x -> x.choose(1), -1);
        Twin.refused("choose with one", () -> Due.town("run 2;", 1, 1, 2), x -> x.choose(1), -1);
        RopeRace x = Due.town("run 2;", 1, 1, 2);
        x.choose(1);
        Due.is("count(1)", x.count(1), 0);
        x.ward();
        Due.is("choose with two", x.choose(1), 2);
    }

    /** Two wards, of which the first is barred in years 1 and 2. */
    private static RopeRace oneBarred() {
        RopeRace x = Due.town("run 2; bar 2;", 2, 1, 2);
        x.choose(1);
        endRace(x);
        Due.is("punish", x.punish(0), 2);
        x.next();
        return x;
    }

    private static void belowTwoByBars() {
        Due.sentence("Terms 2: how many WARDS aren't BARRED (below 2: refused)");
        Twin.refused("choose in the first barred year", ChoiceEdgesTest::oneBarred, x -> x.choose(1), -1);
        RopeRace x = oneBarred();
        x.next();
        Due.is("choose in the last barred year", x.choose(1), -1);
        x.next();
        Due.is("choose behind it", x.choose(1), 2);
    }

    private static void chooseOnce() {
        Due.sentence("Promise 9: NONE: it was done this YEAR");
        for (int far = 1; far <= 5; far++) {
            int stage = far;
            Twin.refused("choose at " + far, () -> Due.stage(stage), x -> x.choose(5), -1);
        }
    }

    private static void lessAThird() {
        Due.sentence("Terms 2: By right run RUN less RUN / 3 (cut)");
        int[] byRight = {2, 2, 3, 4, 4, 5, 6, 6, 7};
        for (int run = 2; run <= 10; run++) {
            // The last one left is drawn each time: those by right are the first ones, the others the last.
            int right = byRight[run - 2];
            int[] draws = new int[2 * (run - right)];
            int[] want = new int[run];
            for (int i = 0; i < run; i++) {
                want[i] = i < right ? i : 17 - run + i;
            }
            for (int i = 0; i < run - right; i++) {
                draws[2 * i] = 17 - right - i;
                draws[2 * i + 1] = 16 - right - i;
            }
            RopeRace x = Due.town("run " + run + ";", 17);
            x.choose(Due.seedOf(draws));
            row("run " + run, x, 0, want);
        }
    }

    private static void neverAheadOfAll() {
        Due.sentence("Terms 2: those who ran longest ago (never: ahead of all)");
        RopeRace x = Due.town("run 2;", 3, 1, 2);
        x.choose(1);
        endRace(x);
        Due.is("ran in year 0", x.look(0, 1), 0);
        x.next();
        x.choose(1);
        row("never ahead of year 0", x, 0, 0, 2);
        endRace(x);
        x.next();
        x.choose(1);
        row("year 0 ahead of year 1", x, 0, 0, 1);
    }

    private static void lesserNumber() {
        Due.sentence("Terms 2: of like ones the lesser number");
        RopeRace x = Due.town("run 2;", 5, 1, 2);
        x.choose(1);
        row("none ever ran", x, 0, 0, 1);
        endRace(x);
        x.next();
        x.choose(1);
        row("of three that never ran", x, 0, 2, 3);
        endRace(x);
        x.next();
        x.choose(1);
        row("one that never ran, and of two of year 0 the lesser", x, 0, 0, 4);
    }

    private static void drawAmongThoseLeft() {
        Due.sentence("Terms 2: the others one by one by a draw among those who don't run yet");
        // As many as are left: whatever is drawn, all run.
        for (int seed = 0; seed < 30; seed++) {
            RopeRace x = Due.town("run 10;", 10);
            x.choose(seed);
            row("all ten", x, 0, 0, 1, 2, 3, 4, 5, 6, 7, 8, 9);
        }
        // Of three twice the first, then the last and the first.
        RopeRace x = Due.town("run 6;", 7);
        x.choose(Due.seedOf(3, 0, 2, 0));
        row("the first, and the first left", x, 0, 0, 1, 2, 3, 4, 5);
        RopeRace y = Due.town("run 6;", 7);
        y.choose(Due.seedOf(3, 2, 2, 0));
        row("the last, and the first", y, 0, 0, 1, 2, 3, 4, 6);
        RopeRace z = Due.town("run 6;", 7);
        z.choose(Due.seedOf(3, 0, 2, 1));
        row("the first, and the last", z, 0, 0, 1, 2, 3, 4, 6);
    }

    private static void drawsInOrderOfNumbers() {
        Due.sentence("Terms 2: a draw among those not BARRED who don't run yet, in order of numbers");
        RopeRace x = Due.town("run 2;", 5, 1, 2, 3);
        x.choose(1);
        endRace(x);
        x.next();
        Due.tell(x, "run 3;", 1);
        // By right wards 2 and 3, that never ran; left are 0 and 1, that ran, and 4, that did not.
        x.choose(Due.seedOf(3, 0));
        row("the first by numbers", x, 0, 0, 2, 3);
    }

    private static void barredAreNotDrawn() {
        Due.sentence("Terms 2: a draw among those not BARRED");
        RopeRace x = Due.town("run 3; bar 1;", 4, 1, 2, 3);
        x.choose(Due.seedOf(2, 1));
        row("year 0", x, 0, 0, 1, 3);
        endRace(x);
        x.punish(1);
        x.next();
        Due.is("three that aren't barred", x.choose(3), 3);
        row("year 1", x, 0, 0, 2, 3);
    }

    private static void pickNotNext() {
        Due.sentence("Promise 10: NONE: not next");
        for (int far : new int[] {0, 2, 3, 4, 5}) {
            Twin.refused("pick at " + far, () -> Due.stage(far), x -> x.pick(), -1);
        }
    }

    private static RopeRace chosen(String text, int wards, int... marks) {
        RopeRace x = Due.town(text, wards, marks);
        x.choose(1);
        return x;
    }

    private static void pickOfFewer() {
        Due.sentence("Terms 2: (refused if there are fewer); Promise 10: NONE: refused");
        Twin.refused("pick of no horses", () -> chosen("run 2;", 2), x -> x.pick(), -1);
        Twin.refused("pick of two", () -> chosen("run 3;", 3, 1, 2), x -> x.pick(), -1);
        RopeRace x = chosen("run 3;", 3, 1, 2, 3, 4);
        x.sound(0, false);
        x.sound(3, false);
        Due.is("pick of two that are sound", x.pick(), -1);
        Due.is("count(1)", x.count(1), 1);
        row("none is picked", x, 1);
        x.sound(3, true);
        Due.is("pick of three that are sound", x.pick(), 2);
        Due.is("count(1)", x.count(1), 2);
        row("those three", x, 1, 1, 2, 3);
    }

    private static void pickOfJustEnough() {
        Due.sentence("Terms 2: of SOUND HORSES RUN; as many as there are");
        RopeRace x = chosen("run 10;", 10, 999, 0, 500, 1, 998, 2, 3, 4, 5, 6);
        Due.is("pick of ten", x.pick(), 999);
        row("all ten", x, 1, 0, 1, 2, 3, 4, 5, 6, 7, 8, 9);
        RopeRace y = chosen("run 10;", 10, 0, 0, 0, 0, 0, 0, 0, 0, 0);
        Due.is("pick of nine", y.pick(), -1);
        y.horse(0);
        Due.is("pick of ten", y.pick(), 0);
    }

    private static void pickLeastSpread() {
        Due.sentence("Terms 2: such that the greatest MARK less the least is least");
        RopeRace x = chosen("run 2;", 2, 0, 999, 500, 10, 490);
        Due.is("like ones: 0 10 and 500 490", x.pick(), 10);
        row("the first by numbers", x, 1, 0, 3);
        RopeRace y = chosen("run 2;", 2, 0, 999, 500, 10, 491);
        Due.is("one less", y.pick(), 9);
        row("the last ones", y, 1, 2, 4);
        RopeRace z = chosen("run 2;", 2, 999, 990, 0, 8);
        Due.is("at the low end", z.pick(), 8);
        row("the low end", z, 1, 2, 3);
        RopeRace v = chosen("run 2;", 2, 10, 8, 999, 998);
        Due.is("at the high end", v.pick(), 1);
        row("the high end", v, 1, 2, 3);
    }

    private static void pickFirstByNumbers() {
        Due.sentence("Terms 2: of several sets the first by numbers, rising");
        RopeRace x = chosen("run 3;", 3, 50, 50, 50, 50);
        Due.is("all like", x.pick(), 0);
        row("all like", x, 1, 0, 1, 2);
        RopeRace y = chosen("run 3;", 3, 700, 40, 705, 45, 710, 50);
        Due.is("two spans", y.pick(), 10);
        row("two spans", y, 1, 0, 2, 4);
        // Sets of spread 10 that differ in the last horse alone: 0 1 3 down to 90, 0 1 2 up to 110.
        RopeRace z = chosen("run 3;", 3, 100, 100, 110, 90);
        Due.is("a later span", z.pick(), 10);
        row("a later span", z, 1, 0, 1, 2);
        RopeRace v = chosen("run 3;", 3, 100, 100, 90, 110);
        Due.is("an earlier span", v.pick(), 10);
        row("an earlier span", v, 1, 0, 1, 2);
        // A set of the high span has the first horse, one of the low span the second.
        RopeRace w = chosen("run 2;", 2, 900, 100, 105, 905);
        Due.is("far spans", w.pick(), 5);
        row("far spans", w, 1, 0, 3);
    }

    private static void pickOfMostHorses() {
        Due.sentence("Terms 2: at most 16 in all; PICK of RUN 10 among them");
        RopeRace x = chosen("run 10;", 10, 999, 900, 0, 1, 2, 3, 4, 5, 6, 7, 8, 9, 10, 950, 970, 980);
        Due.is("pick", x.pick(), 9);
        row("the first of two spans", x, 1, 2, 3, 4, 5, 6, 7, 8, 9, 10, 11);
        RopeRace y = chosen("run 10;", 10, 0, 1, 2, 3, 4, 5, 6, 6, 6, 6, 6, 6, 6, 6, 6, 6);
        Due.is("pick of ten like ones", y.pick(), 0);
        row("the last ten", y, 1, 6, 7, 8, 9, 10, 11, 12, 13, 14, 15);
    }

    private static void lotsNotNext() {
        Due.sentence("Promise 11: false: not next");
        for (int far : new int[] {0, 1, 3, 4, 5}) {
            Twin.refused("lots at " + far, () -> Due.stage(far), x -> x.lots(5));
        }
    }

    private static void lotsOfTheLastLeft() {
        Due.sentence("Terms 2: each draws one of the HORSES left, by numbers; each draws one of the WARDS left, by numbers");
        RopeRace x = chosen("run 4;", 5, 900, 1, 2, 3, 4);
        x.pick();
        Due.is("lots", x.lots(Due.seedOf(4, 3, 3, 2, 2, 1, 1, 0, 4, 3, 3, 2, 2, 1)), true);
        int[] wards = {x.drawn(0, 0), x.drawn(0, 1), x.drawn(0, 2), x.drawn(0, 3)};
        for (int k = 0; k < 4; k++) {
            Due.is("the last horse left of ward " + wards[k], x.look(wards[k], 0), 4 - k);
        }
        row("the last ward left", x, 2, wards[3], wards[2], wards[1], wards[0]);
        RopeRace y = chosen("run 4;", 5, 900, 1, 2, 3, 4);
        y.pick();
        y.lots(Due.seedOf(4, 1, 3, 1, 2, 0, 1, 0, 4, 2, 3, 0, 2, 1));
        int[] horses = {2, 3, 1, 4};
        for (int k = 0; k < 4; k++) {
            Due.is("a horse between of ward " + wards[k], y.look(wards[k], 0), horses[k]);
        }
        row("a ward between", y, 2, wards[2], wards[0], wards[3], wards[1]);
    }

    private static void lotsOfTen() {
        Due.sentence("Terms 2: LOTS; of the most that may run");
        RopeRace x = Due.town("run 10;", 10, MARKS_OF_TEN);
        x.choose(1);
        x.pick();
        x.lots(-1);
        int[] horses = {9, 8, 6, 7, 1, 2, 0, 5, 3, 4};
        for (int ward = 0; ward < 10; ward++) {
            Due.is("look(" + ward + ", 0)", x.look(ward, 0), horses[ward]);
        }
        row("places", x, 2, 3, 1, 5, 2, 4, 8, 9, 6, 7, 0);
    }

    private static void drawnBeyondTheRows() {
        Due.sentence("Promise 12: NONE if there is none such; no such k");
        RopeRace x = Due.town("run 10;", 11, MARKS_OF_TEN);
        x.choose(1);
        x.pick();
        x.lots(1);
        for (int what = 0; what < 3; what++) {
            for (int k : Due.beyond(0, 9)) {
                Due.is("drawn(" + what + ", " + k + ") of ten", x.drawn(what, k), -1);
            }
            Due.is("drawn(" + what + ", 9)", x.drawn(what, 9) >= 0, true);
        }
        RopeRace y = Due.stage(3);
        for (int what = 0; what < 3; what++) {
            for (int k : Due.beyond(0, 1)) {
                Due.is("drawn(" + what + ", " + k + ") of two", y.drawn(what, k), -1);
            }
            Due.is("drawn(" + what + ", 1)", y.drawn(what, 1) >= 0, true);
        }
    }

    private static void drawnOfAnotherWhat() {
        Due.sentence("Promise 12: NONE if there is none such; no such what");
        for (int what : Due.beyond(0, 2)) {
            Due.is("drawn(" + what + ", 0)", Due.stage(3).drawn(what, 0), -1);
        }
    }

    private static void drawnNotYet() {
        Due.sentence("Promise 12: NONE if there is none such (yet)");
        for (int far = 0; far <= 5; far++) {
            RopeRace x = Due.stage(far);
            for (int what = 0; what < 3; what++) {
                Due.is("drawn(" + what + ", 0) at " + far, x.drawn(what, 0) >= 0, far > what);
                Due.is("drawn(" + what + ", 1) at " + far, x.drawn(what, 1) >= 0, far > what);
            }
        }
    }

    private static void drawnInAnotherYear() {
        Due.sentence("Promise 12: NONE if there is none such (this YEAR)");
        for (int far : new int[] {1, 2, 3, 5}) {
            RopeRace x = Due.stage(far);
            x.next();
            row("next behind " + far, x, 0);
            row("next behind " + far, x, 1);
            row("next behind " + far, x, 2);
            x.choose(1);
            row("chosen anew", x, 1);
            x.pick();
            row("picked anew", x, 2);
        }
    }

    private static void lookAtNoWard() {
        Due.sentence("Promise 13: NONE for no such WARD");
        RopeRace x = Due.stage(5);
        for (int what = 0; what < 5; what++) {
            for (int ward : new int[] {Integer.MIN_VALUE, -1, 3, 16, 17, Integer.MAX_VALUE}) {
                Due.is("look(" + ward + ", " + what + ")", x.look(ward, what), -1);
            }
        }
    }

    private static void lookAtAnotherWhat() {
        Due.sentence("Promise 13: NONE for no such what");
        RopeRace x = Due.stage(5);
        for (int what : Due.beyond(0, 4)) {
            Due.is("look(2, " + what + ")", x.look(2, what), -1);
        }
    }

    private static void lookAtNothingYet() {
        Due.sentence("Promise 13: its HORSE (NONE), the YEAR in which it ran last (NONE), BARRED (NONE), money (0 at first)");
        int[] first = {-1, -1, -1, 0, 0};
        for (int far = 0; far <= 2; far++) {
            for (int what = 0; what < 5; what++) {
                Due.is("look(0, " + what + ") at " + far, Due.stage(far).look(0, what), first[what]);
            }
        }
        RopeRace x = Due.stage(3);
        Due.is("a horse behind lots", x.look(0, 0) >= 0, true);
        Due.is("no horse of one that doesn't run", x.look(2, 0), -1);
        x.next();
        Due.is("no horse in the next year", x.look(0, 0), -1);
    }

    private static void lookAtTheYearItRan() {
        Due.sentence("Promise 13: the YEAR in which it ran last (behind a race that began)");
        Due.is("ahead of drop", Due.stage(3).look(0, 1), -1);
        RopeRace x = Due.stage(3);
        x.seen(0, x.drawn(2, 1));
        Due.is("a false start", x.drop(1), -2);
        Due.is("behind a false start", x.look(0, 1), -1);
        Due.is("in the race", Due.stage(4).look(0, 1), 0);
        RopeRace y = Due.stage(5);
        Due.is("behind the race", y.look(0, 1), 0);
        Due.is("one that doesn't run", y.look(2, 1), -1);
        y.next();
        Due.is("in the next year", y.look(0, 1), 0);
        y.choose(1);
        endRace(y);
        Due.is("it ran again", y.look(0, 1), 1);
        Due.is("the other one did not", y.look(1, 1), 0);
        Due.is("the third one did", y.look(2, 1), 1);
    }

    private static void lookAtMoneyBelowNought() {
        Due.sentence("Promise 13: money (0 at first; below 0, too)");
        RopeRace x = Due.town("run 2;", 3, 0, 0);
        Due.prepare(x);
        x.drop(Due.calm(20));
        for (int i = 0; i < 40; i++) {
            x.pact(0, 2, 9999);
        }
        x.go(400);
        Due.is("the first one has won", x.won(), 0);
        Due.is("it pays what it has not", x.look(0, 4), -399960);
        Due.is("another one gets it", x.look(2, 4), 399960);
        Due.is("the second one has none", x.look(1, 4), 0);
    }
}
