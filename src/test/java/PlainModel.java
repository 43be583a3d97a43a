import java.util.ArrayList;
import java.util.Comparator;
import java.util.HashMap;
import java.util.List;
import java.util.Map;
import java.util.TreeMap;
import java.util.TreeSet;
import java.util.regex.Matcher;
import java.util.regex.Pattern;

/**
 * The document once more, in another shape than the program's: texts by a pattern, sets of horses by trying all,
 * the ring as a map of its cells. Slow, and only for comparing.
 */
final class PlainModel {
    private static final List<String> WORDS = List.of("run", "laps", "bend", "loose", "bar", "apart", "false");
    private static final int[][] SAID = {{2, 10}, {1, 5}, {1, 9}, {0, 1}, {0, 9}, {0, 9}, {0, 9}};
    private static final int[] USUAL = {3, 1, 9, 0, 0, 0, 0};
    private static final Pattern TOKEN = Pattern.compile("[a-z]+|[0-9]+|;|[\\s\\S]");

    private static final class Town {
        int horse = -1, ran = -1, barred = -1, falses, money, how, other;
        boolean in;
        int dist, lane, pace, place = -1, bumps;
        boolean loose;
    }

    private static final class Text {
        final int from;
        final Map<String, Integer> lines;

        Text(int from, Map<String, Integer> lines) {
            this.from = from;
            this.lines = lines;
        }
    }

    private static final class Fault extends RuntimeException {
        private static final long serialVersionUID = 1L;
        final int kind;
        final int at;

        Fault(int kind, int at) {
            super(null, null, false, false);
            this.kind = kind;
            this.at = at;
        }
    }

    private final StringBuilder tape = new StringBuilder();
    private final List<Text> texts = new ArrayList<>();
    private int kind = 0;
    private int faultAt = -1;
    private final List<Town> wards = new ArrayList<>();
    private final List<Integer> marks = new ArrayList<>();
    private final TreeSet<Integer> sound = new TreeSet<>();
    private final List<int[]> pacts = new ArrayList<>();
    private int year, stage, length = 20;
    private final TreeSet<Integer> bends = new TreeSet<>();
    private TreeSet<Integer> running = new TreeSet<>();
    private List<Integer> picked = new ArrayList<>();
    private List<Integer> rope = new ArrayList<>();
    private final Map<Integer, Integer> seen = new HashMap<>();
    private long x;
    private int ticks, laps, bendLaw, looseLaw, winner = -1;
    private final List<Integer> arrivals = new ArrayList<>();

    private int draw(int modulus) {
        x = (1103515245L * x + 12345L) & 0xffffffffL;
        return (int) ((x >> 16) % 32768 % modulus);
    }

    private void sow(int seed) {
        x = seed & 0xffffffffL;
    }

    int feed(int a, int b, int c, int d, int e) {
        if (tape.length() > 580) {
            return -1;
        }
        for (int number : new int[] {a, b, c, d, e}) {
            for (int i = 0; i < 4; i++) {
                tape.append((char) (Integer.rotateLeft(number, 8 * (i + 1)) & 0xff));
            }
        }
        return tape.length();
    }

    int statute(int n, int from) {
        if (n < 0 || n > tape.length() || from < 0 || from > 99 || texts.size() == 10) {
            return -2;
        }
        String text = tape.substring(0, n);
        tape.setLength(0);
        kind = 0;
        faultAt = -1;
        try {
            texts.add(new Text(from, parse(text)));
            return texts.size() - 1;
        } catch (Fault fault) {
            kind = fault.kind;
            faultAt = fault.at;
            return -1;
        }
    }

    private static Map<String, Integer> parse(String text) {
        List<String> tokens = new ArrayList<>();
        List<Integer> starts = new ArrayList<>();
        Matcher matcher = TOKEN.matcher(text);
        while (matcher.find()) {
            if (!matcher.group().equals(" ") && !matcher.group().equals("\n")) {
                tokens.add(matcher.group());
                starts.add(matcher.start());
            }
        }
        starts.add(text.length());
        Map<String, Integer> lines = new TreeMap<>();
        for (int i = 0; i < tokens.size(); i += 3) {
            String word = tokens.get(i);
            int which = WORDS.indexOf(word);
            if (which < 0) {
                throw new Fault(1, starts.get(i));
            }
            if (i + 1 >= tokens.size() || !tokens.get(i + 1).matches("[0-9]+")) {
                throw new Fault(1, starts.get(i + 1));
            }
            java.math.BigInteger number = new java.math.BigInteger(tokens.get(i + 1));
            if (number.bitLength() > 20 || number.intValue() < SAID[which][0] || number.intValue() > SAID[which][1]) {
                throw new Fault(2, starts.get(i + 1));
            }
            if (lines.containsKey(word)) {
                throw new Fault(3, starts.get(i));
            }
            if (i + 2 >= tokens.size() || !tokens.get(i + 2).equals(";")) {
                throw new Fault(1, starts.get(i + 2));
            }
            lines.put(word, number.intValue());
        }
        return lines;
    }

    int fault(int what) {
        return what == 0 ? kind : what == 1 ? faultAt : -1;
    }

    int law(int what, int when) {
        if (what < 0 || what > 6 || when < 0 || when > 99) {
            return -1;
        }
        String word = WORDS.get(what);
        for (int from = when; from >= 0; from--) {
            for (int i = texts.size() - 1; i >= 0; i--) {
                if (texts.get(i).from == from && texts.get(i).lines.containsKey(word)) {
                    return texts.get(i).lines.get(word);
                }
            }
        }
        return USUAL[what];
    }

    int ward() {
        if (wards.size() == 17) {
            return -1;
        }
        wards.add(new Town());
        return wards.size() - 1;
    }

    int horse(int mark) {
        if (mark < 0 || mark > 999 || marks.size() == 16) {
            return -1;
        }
        marks.add(mark);
        sound.add(marks.size() - 1);
        return marks.size() - 1;
    }

    boolean sound(int horse, boolean is) {
        if (horse < 0 || horse >= marks.size()) {
            return false;
        }
        if (is) {
            sound.add(horse);
        } else {
            sound.remove(horse);
        }
        return true;
    }

    int choose(int seed) {
        List<Integer> free = new ArrayList<>();
        for (int i = 0; i < wards.size(); i++) {
            if (wards.get(i).barred < year) {
                free.add(i);
            }
        }
        int run = Math.min(law(0, year), free.size());
        if (stage != 0 || run < 2) {
            return -1;
        }
        List<Integer> waiting = new ArrayList<>(free);
        waiting.sort(Comparator.<Integer>comparingInt(i -> wards.get(i).ran).thenComparingInt(i -> i));
        running = new TreeSet<>(waiting.subList(0, run - run / 3));
        sow(seed);
        free.removeAll(running);
        while (running.size() < run) {
            running.add(free.remove(draw(free.size())));
        }
        stage = 1;
        return run;
    }

    int pick() {
        if (stage != 1 || sound.size() < running.size()) {
            return -1;
        }
        List<Integer> best = null;
        int least = 0;
        for (int set = 0; set < 1 << marks.size(); set++) {
            if (Integer.bitCount(set) != running.size()) {
                continue;
            }
            List<Integer> horses = new ArrayList<>();
            int low = 1000;
            int high = -1;
            for (int i = 0; i < marks.size(); i++) {
                if ((set >> i & 1) == 1) {
                    horses.add(i);
                    low = Math.min(low, marks.get(i));
                    high = Math.max(high, marks.get(i));
                }
            }
            if (sound.containsAll(horses)
                    && (best == null || high - low < least || high - low == least && isAhead(horses, best))) {
                best = horses;
                least = high - low;
            }
        }
        picked = best;
        stage = 2;
        return least;
    }

    private static boolean isAhead(List<Integer> one, List<Integer> other) {
        for (int i = 0; i < one.size(); i++) {
            if (!one.get(i).equals(other.get(i))) {
                return one.get(i) < other.get(i);
            }
        }
        return false;
    }

    boolean lots(int seed) {
        if (stage != 2) {
            return false;
        }
        sow(seed);
        List<Integer> left = new ArrayList<>(picked);
        for (int ward : running) {
            wards.get(ward).horse = left.remove(draw(left.size()));
        }
        left = new ArrayList<>(running);
        rope = new ArrayList<>();
        while (!left.isEmpty()) {
            rope.add(left.remove(draw(left.size())));
        }
        seen.clear();
        stage = 3;
        return true;
    }

    int drawn(int what, int k) {
        if (what < 0 || what > 2 || stage <= what || k < 0 || k >= running.size()) {
            return -1;
        }
        return what == 0 ? new ArrayList<>(running).get(k) : what == 1 ? picked.get(k) : rope.get(k);
    }

    private boolean no(int ward) {
        return ward < 0 || ward >= wards.size();
    }

    int look(int ward, int what) {
        if (no(ward) || what < 0 || what > 4) {
            return -1;
        }
        Town w = wards.get(ward);
        return new int[] {w.horse, w.ran, w.barred, w.falses, w.money}[what];
    }

    boolean ring(int l) {
        if (l < 12 || l > 60 || stage == 4) {
            return false;
        }
        length = l;
        bends.clear();
        return true;
    }

    boolean bend(int cell, boolean on) {
        if (cell < 0 || cell >= length || stage == 4) {
            return false;
        }
        if (on) {
            bends.add(cell);
        } else {
            bends.remove(cell);
        }
        return true;
    }

    boolean orders(int ward, int how, int other) {
        if (no(ward) || how < 0 || how > 2 || how > 0 && (no(other) || other == ward)) {
            return false;
        }
        wards.get(ward).how = how;
        wards.get(ward).other = other;
        return true;
    }

    boolean seen(int place, int ward) {
        if (stage != 3 || place < 0 || place >= rope.size() || !running.contains(ward)) {
            return false;
        }
        seen.put(place, ward);
        return true;
    }

    int drop(int seed) {
        if (stage != 3) {
            return -100;
        }
        List<Integer> wrong = new ArrayList<>();
        for (int place = 0; place < rope.size(); place++) {
            if (!seen.getOrDefault(place, rope.get(place)).equals(rope.get(place))) {
                wrong.add(rope.get(place));
            }
        }
        seen.clear();
        if (wrong.size() > law(5, year)) {
            for (int ward : wrong) {
                wards.get(ward).falses++;
            }
            for (int ward : running) {
                if (law(6, year) > 0 && wards.get(ward).falses >= law(6, year)) {
                    rope.remove((Integer) ward);
                    rope.add(ward);
                    wards.get(ward).falses = 0;
                }
            }
            return -1 - wrong.size();
        }
        begin(seed);
        return wrong.size();
    }

    private void begin(int seed) {
        sow(seed);
        laps = law(1, year);
        bendLaw = law(2, year);
        looseLaw = law(3, year);
        ticks = 0;
        winner = -1;
        arrivals.clear();
        for (int k = 0; k < rope.size(); k++) {
            Town w = wards.get(rope.get(k));
            w.ran = year;
            w.in = true;
            w.dist = -(k / 4);
            w.lane = k % 4;
            w.pace = 0;
            w.loose = false;
            w.place = -1;
            w.bumps = 0;
        }
        stage = 4;
    }

    int go(int n) {
        if (stage != 4 || n < 1 || n > 400) {
            return -1;
        }
        int done = 0;
        do {
            tick();
            done++;
            ticks++;
            if (arrivals.size() == running.size() || ticks == 400) {
                for (int[] pact : pacts) {
                    if (pact[0] == winner) {
                        wards.get(pact[0]).money -= pact[2];
                        wards.get(pact[1]).money += pact[2];
                    }
                }
                pacts.clear();
                stage = 5;
            }
        } while (stage == 4 && done < n);
        return done;
    }

    private List<Integer> onRing() {
        List<Integer> all = new ArrayList<>();
        for (int ward : running) {
            if (!arrivals.contains(ward)) {
                all.add(ward);
            }
        }
        return all;
    }

    private int spot(int dist, int lane) {
        return ((dist + length) % length) * 4 + lane;
    }

    private boolean free(int dist, int lane) {
        if (lane < 0 || lane > 3) {
            return false;
        }
        Map<Integer, Integer> ring = new HashMap<>();
        for (int ward : onRing()) {
            Integer before = ring.put(spot(wards.get(ward).dist, wards.get(ward).lane), ward);
            if (before != null) {
                throw new IllegalStateException("two runners at one spot");
            }
        }
        return !ring.containsKey(spot(dist, lane));
    }

    private void tick() {
        List<Integer> order = onRing();
        order.sort(Comparator.<Integer>comparingInt(i -> -wards.get(i).dist).thenComparingInt(i -> wards.get(i).lane));
        for (int ward : order) {
            obey(wards.get(ward));
            speed(wards.get(ward));
            move(ward, wards.get(ward));
        }
    }

    private void obey(Town w) {
        if (w.loose || w.how == 0 || !onRing().contains(w.other)) {
            return;
        }
        Town other = wards.get(w.other);
        if (w.dist != other.dist + 1 && w.dist != other.dist + 2) {
            return;
        }
        boolean beside = w.lane == other.lane - 1 || w.lane == other.lane + 1;
        if (w.how == 1 && beside && free(w.dist, other.lane)) {
            w.lane = other.lane;
        } else if (w.how == 2 && w.lane == other.lane) {
            if (free(w.dist, w.lane - 1)) {
                w.lane--;
            } else if (free(w.dist, w.lane + 1)) {
                w.lane++;
            }
        }
    }

    private void speed(Town w) {
        w.pace = Math.min(w.pace + 1, 3 + marks.get(w.horse) / 250);
        if (draw(8) == 0) {
            w.pace--;
        }
        if (w.pace < 1) {
            w.pace = 1;
        }
    }

    private void move(int ward, Town w) {
        int left = w.pace;
        while (left > 0) {
            left--;
            if (free(w.dist + 1, w.lane)) {
                w.lane += 0;
            } else if (free(w.dist + 1, w.lane - 1)) {
                w.lane -= 1;
            } else if (free(w.dist + 1, w.lane + 1)) {
                w.lane += 1;
            } else {
                w.pace = 0;
                w.bumps++;
                return;
            }
            w.dist++;
            if (bends.contains((w.dist + length) % length) && !w.loose && w.pace > bendLaw && draw(4) == 0) {
                w.loose = true;
                w.pace = 1;
                left = 0;
            }
            if (w.dist == laps * length) {
                w.place = arrivals.size();
                arrivals.add(ward);
                if (winner < 0 && (!w.loose || looseLaw == 1)) {
                    winner = ward;
                }
                return;
            }
        }
    }

    int race(int ward, int what) {
        if (stage < 4 || !running.contains(ward) || what < 0 || what > 5) {
            return -100;
        }
        Town w = wards.get(ward);
        return new int[] {w.dist, w.lane, w.pace, w.loose ? 1 : 0, w.place, w.bumps}[what];
    }

    int won() {
        return stage < 4 ? -1 : winner;
    }

    int pact(int ward, int other, int n) {
        if (no(ward) || no(other) || ward == other || n < 1 || n > 9999 || pacts.size() == 40) {
            return -1;
        }
        pacts.add(new int[] {ward, other, n});
        return pacts.size();
    }

    int punish(int ward) {
        if (stage != 5 || !running.contains(ward)) {
            return -2;
        }
        for (int i = 1; i <= law(4, year); i++) {
            wards.get(ward).barred = Math.max(wards.get(ward).barred, year + i);
        }
        return wards.get(ward).barred;
    }

    int next() {
        if (stage == 4 || year == 99) {
            return -1;
        }
        stage = 0;
        ticks = 0;
        running.clear();
        for (Town w : wards) {
            w.horse = -1;
            w.falses = 0;
        }
        return ++year;
    }

    int count(int what) {
        int[] all = {year, stage, ticks, wards.size(), marks.size(), pacts.size(), texts.size(), length};
        return what < 0 || what >= all.length ? -1 : all[what];
    }
}
