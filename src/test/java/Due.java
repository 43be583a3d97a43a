/** Compares answers with those that are due, and makes objects that stand where a test begins. */
final class Due {
    private static int wrong = 0;
    private static String sentence = "";

    private Due() {
    }

    /** Begins the test of a sentence of the document: what is wrong from here on is told with it. */
    static void sentence(String words) {
        sentence = "[" + words + "] ";
    }

    static void is(String call, int got, int want) {
        if (got != want) {
            wrong++;
            System.out.println(sentence + call + " answered " + got + ", due is " + want);
        }
    }

    static void is(String call, boolean got, boolean want) {
        is(call, got ? 1 : 0, want ? 1 : 0);
    }

    /** The end of a test's main: exit code 1 if an answer was wrong. */
    static void end() {
        System.out.println(wrong == 0 ? "all answers are as due" : wrong + " answers are not as due");
        if (wrong != 0) {
            System.exit(1);
        }
    }

    /** Feeds a text, filled up with blanks to whole feeds; its own length. */
    static int feed(RopeRace x, String text) {
        int[] w = words(text);
        for (int i = 0; i < w.length; i += 5) {
            x.feed(w[i], w[i + 1], w[i + 2], w[i + 3], w[i + 4]);
        }
        return text.length();
    }

    /** A text as numbers of four bytes, filled up with blanks to whole feeds. */
    static int[] words(String text) {
        int[] words = new int[(text.length() + 19) / 20 * 5];
        for (int i = 0; i < words.length * 4; i++) {
            words[i / 4] = words[i / 4] << 8 | (i < text.length() ? text.charAt(i) : ' ');
        }
        return words;
    }

    static int tell(RopeRace x, String text, int year) {
        return x.statute(feed(x, text), year);
    }

    /** A new object with a statute from year 0 on, wards, and horses of these marks. */
    static RopeRace town(String text, int wards, int... marks) {
        RopeRace x = new RopeRace();
        is("statute " + text, tell(x, text, 0), 0);
        for (int i = 0; i < wards; i++) {
            x.ward();
        }
        for (int mark : marks) {
            x.horse(mark);
        }
        return x;
    }

    /**
     * A town of three wards of which two run, so far in its first year as count(1) numbers it: 0 nothing .. 5 over.
     * Bends, orders, a pact and a tape with bytes make it show later if a call has changed one of them.
     */
    static RopeRace stage(int far) {
        RopeRace x = town("run 2; bend 1; bar 2;", 3, 0, 100, 300);
        x.ring(12);
        x.bend(5, true);
        x.orders(0, 1, 1);
        x.orders(1, 2, 0);
        x.pact(0, 2, 50);
        x.pact(1, 2, 70);
        feed(x, "laps 2; loose 1;");
        if (far >= 1) {
            x.choose(1);
        }
        if (far >= 2) {
            x.pick();
        }
        if (far >= 3) {
            x.lots(1);
        }
        if (far >= 4) {
            x.drop(1);
            x.go(far == 4 ? 2 : 400);
        }
        is("how far the year is", x.count(1), far);
        return x;
    }

    /** Numbers on both sides of what may be said: the next ones and the farthest. */
    static int[] beyond(int least, int most) {
        return new int[] {Integer.MIN_VALUE, least - 1, most + 1, Integer.MAX_VALUE};
    }

    /** Chooses, picks and draws lots: of up to five, ward k gets the k-th horse picked and the k-th place. */
    static void prepare(RopeRace x) {
        is("choose", x.choose(1) >= 2, true);
        is("pick", x.pick() >= 0, true);
        is("lots", x.lots(seedInOrder(x)), true);
    }

    /** A race of as many wards as marks on a ring of these cells: of up to five, ward k is at place k. */
    static RopeRace started(String text, int cells, int seed, int... marks) {
        RopeRace x = town(text, marks.length, marks);
        x.ring(cells);
        prepare(x);
        is("drop", x.drop(seed), 0);
        return x;
    }

    /** Where a runner is, and its pace. */
    static void at(String when, RopeRace x, int ward, int dist, int lane, int pace) {
        is(when + ": DIST of " + ward, x.race(ward, 0), dist);
        is(when + ": LANE of " + ward, x.race(ward, 1), lane);
        is(when + ": PACE of " + ward, x.race(ward, 2), pace);
    }

    /** A seed by which each draws the first one left; of more than five that takes too long to find. */
    private static int seedInOrder(RopeRace x) {
        int run = 0;
        while (x.drawn(0, run) != RopeRace.NONE) {
            run++;
        }
        if (run > 5) {
            return 1;
        }
        int[] draws = new int[2 * run];
        for (int i = 0; i < run; i++) {
            draws[i] = -(run - i);
            draws[run + i] = -(run - i);
        }
        return seed(draws);
    }

    /** The least seed whose draws are so: k asks for a number that isn't 0 modulo k, -k for one that is. */
    static int seed(int... draws) {
        for (int seed = 0; seed < 200_000_000; seed++) {
            if (fits(seed, draws)) {
                return seed;
            }
        }
        throw new IllegalStateException("no such seed");
    }

    private static boolean fits(int seed, int[] draws) {
        int x = seed;
        for (int draw : draws) {
            x = x * 1103515245 + 12345;
            int number = x >>> 16 & 0x7fff;
            if (number % Math.abs(draw) == 0 != draw < 0) {
                return false;
            }
        }
        return true;
    }

    /** The least seed whose draws are so: pairs of a modulus and its remainder. */
    static int seedOf(int... draws) {
        for (int seed = 0; seed < 200_000_000; seed++) {
            int x = seed;
            boolean fits = true;
            for (int i = 0; i < draws.length && fits; i += 2) {
                x = x * 1103515245 + 12345;
                fits = (x >>> 16 & 0x7fff) % draws[i] == draws[i + 1];
            }
            if (fits) {
                return seed;
            }
        }
        throw new IllegalStateException("no such seed");
    }

    /** A seed by which no runner loses pace in its first n draws. */
    static int calm(int n) {
        int[] draws = new int[n];
        java.util.Arrays.fill(draws, 8);
        return seed(draws);
    }
}
