import java.util.Random;

/** Long runs of mixed calls: every answer and all that can be looked at is compared with PlainModel's. */
public final class ModelTest {
    private static final int RUNS = 800;
    private static final int CALLS = 512;
    private static final int MOST_OF_A_STEP = 50;
    private static final String[] TOKENS = {"run", "laps", "bend", "loose", "bar", "apart", "false"};
    private static final int[] LEAST = {2, 1, 1, 0, 0, 0, 0};
    private static final int[] MOST = {10, 5, 9, 1, 9, 9, 9};

    private final Random random;
    private final String run;
    private final RopeRace x = new RopeRace();
    private final PlainModel m = new PlainModel();
    private int calls;

    private static final int[] tally = new int[8];

    private ModelTest(int number) {
        random = new Random(number);
        run = "run " + number + ", call ";
    }

    public static void main(String[] args) {
        for (int i = 0; i < RUNS; i++) {
            new ModelTest(i).play();
        }
        String[] names = {"races", "won", "falls", "bumps", "orders in a race", "faults", "barred", "false starts"};
        for (int i = 0; i < names.length; i++) {
            Due.is("the runs have " + names[i], tally[i] > 100, true);
        }
        Due.end();
    }

    private int below(int n) {
        return random.nextInt(n);
    }

    private boolean chance(int percent) {
        return below(100) < percent;
    }

    /** Mostly 0 .. n - 1, now and then just beside it or far off. */
    private int near(int n) {
        if (chance(94)) {
            return below(n);
        }
        int[] off = {-1, n, n + 1, Integer.MIN_VALUE, Integer.MAX_VALUE, random.nextInt()};
        return off[below(off.length)];
    }

    private void due(String call, int got, int want) {
        calls++;
        Due.is(run + calls + ": " + call, got, want);
    }

    private void due(String call, boolean got, boolean want) {
        due(call, got ? 1 : 0, want ? 1 : 0);
    }

    private void play() {
        int wards = 2 + below(16);
        int horses = 2 + below(15);
        int spread = chance(30) ? 5 : 1000;
        for (int i = 0; i < wards; i++) {
            due("ward", x.ward(), m.ward());
        }
        for (int i = 0; i < horses; i++) {
            int mark = below(spread);
            due("horse " + mark, x.horse(mark), m.horse(mark));
        }
        if (chance(70)) {
            tell("run" + (2 + below(9)) + ";bend" + (1 + below(4)) + ";bar" + below(5) + ";apart" + below(4) + ";false"
                    + below(4) + ";laps" + (1 + below(5)) + ";loose" + below(2) + ";", 0);
            due("ring", x.ring(12), m.ring(12));
        }
        while (calls < CALLS - MOST_OF_A_STEP) {
            if (chance(35)) {
                stepOfTheYear();
            } else if (chance(70)) {
                change();
            } else {
                ask();
            }
        }
    }

    private void stepOfTheYear() {
        int seed = chance(50) ? below(100) : random.nextInt();
        switch (m.count(1)) {
            case 0: choose(seed); break;
            case 1: due("pick", x.pick(), m.pick()); break;
            case 2: due("lots " + seed, x.lots(seed), m.lots(seed)); break;
            case 3: drop(seed); break;
            case 4: go(chance(85) ? 1 + below(6) : 400); break;
            default: endOfTheYear(); break;
        }
    }

    private void choose(int seed) {
        due("choose " + seed, x.choose(seed), m.choose(seed));
    }

    private void drop(int seed) {
        if (chance(30)) {
            int place = below(10);
            int ward = m.drawn(0, below(10));
            due("seen " + place + " " + ward, x.seen(place, ward), m.seen(place, ward));
            return;
        }
        int want = m.drop(seed);
        tally[0] += want >= 0 ? 1 : 0;
        tally[7] += want < 0 ? 1 : 0;
        due("drop " + seed, x.drop(seed), want);
    }

    private void go(int n) {
        due("go " + n, x.go(n), m.go(n));
        int what = below(6);
        for (int k = 0; m.drawn(0, k) >= 0; k++) {
            int ward = m.drawn(0, k);
            due("race " + ward + " " + what, x.race(ward, what), m.race(ward, what));
        }
        due("won", x.won(), m.won());
    }

    private void endOfTheYear() {
        if (chance(40)) {
            int ward = chance(80) ? m.drawn(0, below(5)) : near(17);
            int want = m.punish(ward);
            tally[6] += want > 0 ? 1 : 0;
            due("punish " + ward, x.punish(ward), want);
            return;
        }
        for (int ward = 0; ward < 17; ward++) {
            tally[2] += m.race(ward, 3) == 1 ? 1 : 0;
            tally[3] += m.race(ward, 5) > 0 ? 1 : 0;
        }
        tally[1] += m.won() >= 0 ? 1 : 0;
        due("next", x.next(), m.next());
    }

    private void tell(String text, int year) {
        Due.feed(x, text);
        int[] w = Due.words(text);
        for (int i = 0; i < w.length; i += 5) {
            m.feed(w[i], w[i + 1], w[i + 2], w[i + 3], w[i + 4]);
            calls++;
        }
        int n = chance(97) ? text.length() : near(text.length() + 1);
        int want = m.statute(n, year);
        tally[5] += want == -1 ? 1 : 0;
        due("statute [" + text + "] " + n + " " + year, x.statute(n, year), want);
        due("fault 0", x.fault(0), m.fault(0));
        due("fault 1", x.fault(1), m.fault(1));
    }

    private String text() {
        StringBuilder text = new StringBuilder();
        int lines = 1 + below(4);
        for (int i = 0; i < lines; i++) {
            int word = below(7);
            int number = chance(92) ? LEAST[word] + below(MOST[word] - LEAST[word] + 1) : below(12);
            text.append(TOKENS[word]).append(chance(50) ? " " : chance(50) ? "\n" : "").append(number).append(';');
        }
        if (chance(25) && text.length() > 0) {
            String noise = "; 0a9\nA~\u00e9rl";
            int at = below(text.length());
            if (chance(50)) {
                text.insert(at, noise.charAt(below(noise.length())));
            } else {
                text.deleteCharAt(at);
            }
        }
        return text.toString();
    }

    private void change() {
        int a = near(17);
        int b = near(17);
        int c = random.nextInt();
        switch (below(16)) {
            case 0:
                if (chance(25)) {
                    tell(text(), near(chance(50) ? 1 + m.count(0) : 100));
                }
                break;
            case 1: due("ward", x.ward(), m.ward()); break;
            case 2:
                int mark = near(1000);
                due("horse " + mark, x.horse(mark), m.horse(mark));
                break;
            case 3: due("sound " + a, x.sound(a, c > 0), m.sound(a, c > 0)); break;
            case 4:
                int cells = chance(80) ? 12 : 11 + near(50);
                if (chance(10)) {
                    due("ring " + cells, x.ring(cells), m.ring(cells));
                }
                break;
            case 5: case 6: case 7:
                int cell = near(m.count(7));
                due("bend " + cell, x.bend(cell, c > 0), m.bend(cell, c > 0));
                break;
            case 8: case 9: case 10: case 11:
                int how = near(3);
                int one = chance(80) ? m.drawn(0, below(10)) : a;
                int other = chance(80) ? m.drawn(0, below(10)) : b;
                due("orders " + one + " " + how + " " + other, x.orders(one, how, other), m.orders(one, how, other));
                tally[4] += how > 0 && m.count(1) == 4 ? 1 : 0;
                break;
            case 12: case 13:
                int sum = near(10000);
                int times = chance(3) ? 41 : 1;
                for (int i = 0; i < times; i++) {
                    due("pact " + a + " " + b + " " + sum, x.pact(a, b, sum), m.pact(a, b, sum));
                }
                break;
            case 14: due("punish " + a, x.punish(a), m.punish(a)); break;
            default: outOfTurn(c); break;
        }
    }

    private void outOfTurn(int seed) {
        switch (below(8)) {
            case 0: choose(seed); break;
            case 1: due("pick", x.pick(), m.pick()); break;
            case 2: due("lots", x.lots(seed), m.lots(seed)); break;
            case 3: due("drop", x.drop(seed), m.drop(seed)); break;
            case 4:
                int n = near(401);
                due("go " + n, x.go(n), m.go(n));
                break;
            case 5:
                if (chance(30)) {
                    due("next", x.next(), m.next());
                }
                break;
            case 6: due("seen", x.seen(below(10), seed), false); break;
            default: due("feed", x.feed(seed, 1, 2, 3, 4), m.feed(seed, 1, 2, 3, 4)); break;
        }
    }

    private void ask() {
        int a = near(17);
        int b = near(10);
        switch (below(7)) {
            case 0:
                int year = near(100);
                due("law " + b + " " + year, x.law(b, year), m.law(b, year));
                break;
            case 1:
                int what = near(3);
                due("drawn " + what + " " + b, x.drawn(what, b), m.drawn(what, b));
                break;
            case 2: due("look " + a + " " + b, x.look(a, b), m.look(a, b)); break;
            case 3: due("race " + a + " " + b, x.race(a, b), m.race(a, b)); break;
            case 4: due("won", x.won(), m.won()); break;
            case 5: due("count " + b, x.count(b), m.count(b)); break;
            default: lookAtAll(); break;
        }
    }

    private void lookAtAll() {
        int what = below(5);
        for (int ward = 0; ward < 17; ward++) {
            due("look " + ward + " " + what, x.look(ward, what), m.look(ward, what));
        }
        int row = below(3);
        for (int k = 0; k < 10; k++) {
            due("drawn " + row + " " + k, x.drawn(row, k), m.drawn(row, k));
        }
        for (int of = 0; of < 8; of++) {
            due("count " + of, x.count(of), m.count(of));
        }
    }
}
