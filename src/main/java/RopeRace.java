import java.util.Arrays;

/** A race of a town's wards round its square, year by year; the document's promises 1 to 25. */
public final class RopeRace {
    public static final int NONE = -1;

    private static final int REFUSED = -2;
    private static final int NOT_THERE = -100;

    private static final int LAST_YEAR = 99;
    private static final int MOST_BYTES = 600;
    private static final int FEED_BYTES = 20;
    private static final int MOST_STATUTES = 10;
    private static final int MOST_WARDS = 17;
    private static final int MOST_HORSES = 16;
    private static final int MOST_MARK = 999;
    private static final int LEAST_RUNNERS = 2;
    private static final int MOST_RUNNERS = 10;
    private static final int FIRST_CELLS = 20;
    private static final int LEAST_CELLS = 12;
    private static final int MOST_CELLS = 60;
    private static final int LANES = 4;
    private static final int MOST_TICKS = 400;
    private static final int MOST_PACTS = 40;
    private static final int MOST_PAY = 9999;

    // The words of a statute, numbered as law() numbers them.
    private static final int RUN = 0;
    private static final int LAPS = 1;
    private static final int BEND = 2;
    private static final int LOOSE = 3;
    private static final int BAR = 4;
    private static final int APART = 5;
    private static final int FALSE = 6;
    private static final int WORDS = 7;

    private static final int[] LEAST_SAID = {2, 1, 1, 0, 0, 0, 0};
    private static final int[] MOST_SAID = {10, 5, 9, 1, 9, 9, 9};
    private static final int[] UNTOLD = {3, 1, 9, 0, 0, 0, 0};

    // How far a year is, numbered as count(1) numbers it.
    private static final int NOTHING = 0;
    private static final int CHOSEN = 1;
    private static final int PICKED = 2;
    private static final int LOTS_DRAWN = 3;
    private static final int RACING = 4;
    private static final int OVER = 5;

    private static final int NO_ORDERS = 0;
    private static final int HINDER = 1;
    private static final int HELP = 2;

    private final Tape tape;
    private final Statutes statutes;
    private final Town town;
    private final Stable stable;
    private final Rope rope;
    private final Race race;
    private final Pacts pacts;
    private final Draws draws;
    private int year;
    private int stage;

    public RopeRace() {
        tape = new Tape();
        statutes = new Statutes();
        town = new Town();
        stable = new Stable();
        rope = new Rope();
        race = new Race();
        pacts = new Pacts();
        draws = new Draws();
        year = 0;
        stage = NOTHING;
    }

    public int feed(int a, int b, int c, int d, int e) {
        if (tape.length + FEED_BYTES > MOST_BYTES) {
            return NONE;
        }
        tape.append(a);
        tape.append(b);
        tape.append(c);
        tape.append(d);
        tape.append(e);
        return tape.length;
    }

    public int statute(int n, int year) {
        if (n < 0 || n > tape.length || !isYear(year) || statutes.told >= MOST_STATUTES) {
            return REFUSED;
        }
        tape.readText(n);
        return tape.fault == Tape.NO_FAULT ? statutes.keep(year, tape.said) : NONE;
    }

    public int fault(int what) {
        switch (what) {
            case 0: return tape.fault;
            case 1: return tape.place;
            default: return NONE;
        }
    }

    public int law(int what, int year) {
        return what >= 0 && what < WORDS && isYear(year) ? statutes.inForce(what, year) : NONE;
    }

    public int ward() {
        return town.addWard();
    }

    public int horse(int mark) {
        return mark >= 0 && mark <= MOST_MARK ? stable.addHorse(mark) : NONE;
    }

    public boolean sound(int horse, boolean is) {
        if (!stable.has(horse)) {
            return false;
        }
        stable.isSound[horse] = is;
        return true;
    }

    public int choose(int seed) {
        if (stage != NOTHING) {
            return NONE;
        }
        int free = town.countFree(year);
        int run = Math.min(statutes.inForce(RUN, year), free);
        if (run < LEAST_RUNNERS) {
            return NONE;
        }
        draws.begin(seed);
        town.chooseRunners(run, free, year, draws);
        rope.listRunners(town);
        stage = CHOSEN;
        return run;
    }

    public int pick() {
        if (stage != CHOSEN) {
            return NONE;
        }
        int spread = stable.pickEven(rope.run);
        if (spread != NONE) {
            stage = PICKED;
        }
        return spread;
    }

    public boolean lots(int seed) {
        if (stage != PICKED) {
            return false;
        }
        draws.begin(seed);
        rope.drawHorses(town, stable.picked, draws);
        rope.drawPlaces(draws);
        stage = LOTS_DRAWN;
        return true;
    }

    public int drawn(int what, int k) {
        if (k < 0 || k >= rope.run) {
            return NONE;
        }
        switch (what) {
            case 0: return stage >= CHOSEN ? rope.runners[k] : NONE;
            case 1: return stage >= PICKED ? stable.picked[k] : NONE;
            case 2: return stage >= LOTS_DRAWN ? rope.places[k] : NONE;
            default: return NONE;
        }
    }

    public int look(int ward, int what) {
        Ward found = town.find(ward);
        if (found == null) {
            return NONE;
        }
        switch (what) {
            case 0: return found.horse;
            case 1: return found.lastRan;
            case 2: return found.barredTo;
            case 3: return found.falseStarts;
            case 4: return found.money;
            default: return NONE;
        }
    }

    public boolean ring(int l) {
        if (l < LEAST_CELLS || l > MOST_CELLS || stage == RACING) {
            return false;
        }
        race.layRing(l);
        return true;
    }

    public boolean bend(int cell, boolean on) {
        if (cell < 0 || cell >= race.cells || stage == RACING) {
            return false;
        }
        race.bends[cell] = on;
        return true;
    }

    public boolean orders(int ward, int how, int other) {
        if (!town.has(ward) || how < NO_ORDERS || how > HELP) {
            return false;
        }
        if (how != NO_ORDERS && (!town.has(other) || other == ward)) {
            return false;
        }
        race.orderHow[ward] = how;
        race.orderOther[ward] = other;
        return true;
    }

    public boolean seen(int place, int ward) {
        if (stage != LOTS_DRAWN || place < 0 || place >= rope.run || !town.runs(ward)) {
            return false;
        }
        rope.seenAt[place] = ward;
        return true;
    }

    public int drop(int seed) {
        if (stage != LOTS_DRAWN) {
            return NOT_THERE;
        }
        int others = rope.countOthers();
        if (others > statutes.inForce(APART, year)) {
            rope.addFalseStarts(town);
            rope.forgetSeen();
            rope.sendBack(town, statutes.inForce(FALSE, year));
            return -1 - others;
        }
        startRace(seed);
        return others;
    }

    public int go(int n) {
        if (stage != RACING || n < 1 || n > MOST_TICKS) {
            return NONE;
        }
        int done = 0;
        while (done < n && !race.isOver()) {
            race.tick();
            done++;
        }
        if (race.isOver()) {
            pacts.settle(town, race.winner);
            stage = OVER;
        }
        return done;
    }

    public int race(int ward, int what) {
        Runner runner = stage >= RACING ? race.find(ward) : null;
        if (runner == null) {
            return NOT_THERE;
        }
        switch (what) {
            case 0: return runner.dist;
            case 1: return runner.lane;
            case 2: return runner.pace;
            case 3: return runner.riderless ? 1 : 0;
            case 4: return runner.arrivedAs;
            case 5: return runner.bumps;
            default: return NOT_THERE;
        }
    }

    public int won() {
        return stage >= RACING ? race.winner : NONE;
    }

    public int pact(int ward, int other, int n) {
        if (!town.has(ward) || !town.has(other) || ward == other || n < 1 || n > MOST_PAY) {
            return NONE;
        }
        return pacts.add(ward, other, n);
    }

    public int punish(int ward) {
        Ward found = town.find(ward);
        if (stage != OVER || found == null || !found.runs) {
            return REFUSED;
        }
        int bar = statutes.inForce(BAR, year);
        if (bar > 0) {
            found.barredTo = Math.max(found.barredTo, year + bar);
        }
        return found.barredTo;
    }

    public int next() {
        if (stage == RACING || year >= LAST_YEAR) {
            return NONE;
        }
        year++;
        stage = NOTHING;
        town.forgetYear();
        return year;
    }

    public int count(int what) {
        switch (what) {
            case 0: return year;
            case 1: return stage;
            case 2: return stage >= RACING ? race.ticks : 0;
            case 3: return town.size;
            case 4: return stable.size;
            case 5: return pacts.size;
            case 6: return statutes.told;
            case 7: return race.cells;
            default: return NONE;
        }
    }

    private static boolean isYear(int year) {
        return year >= 0 && year <= LAST_YEAR;
    }

    private void startRace(int seed) {
        race.begin(seed);
        race.setLaws(statutes.inForce(LAPS, year), statutes.inForce(BEND, year), statutes.inForce(LOOSE, year));
        for (int k = 0; k < rope.run; k++) {
            Ward ward = town.find(rope.places[k]);
            if (ward != null) {
                race.enter(rope.places[k], stable.markOf(ward.horse));
                ward.lastRan = year;
            }
        }
        stage = RACING;
    }

    /** The numbers that follow from a seed. */
    private static final class Draws {
        private int x;

        void begin(int seed) {
            x = seed;
        }

        int below(int bound) {
            x = 1103515245 * x + 12345;
            int number = x >> 16 & 32767;
            return bound > 0 ? number % bound : 0;
        }
    }

    /** The bytes that were fed, and what the reading of the latest text found. */
    private static final class Tape {
        static final int NO_FAULT = 0;
        static final int NO_TOKEN = 1;
        static final int BEYOND = 2;
        static final int TWICE = 3;

        // Above every number that a word may have; digits in any number end here instead of wrapping.
        private static final int TOO_MUCH = 1000;

        private final byte[] bytes = new byte[MOST_BYTES];
        private int length;
        private int at;
        private int end;
        private final int[] said = new int[WORDS];
        private int fault = NO_FAULT;
        private int place = NONE;

        void append(int number) {
            for (int shift = 24; shift >= 0 && length < MOST_BYTES; shift -= 8) {
                bytes[length] = (byte) (number >> shift);
                length++;
            }
        }

        void readText(int n) {
            at = 0;
            end = Math.min(n, length);
            fault = NO_FAULT;
            place = NONE;
            Arrays.fill(said, NONE);
            skipBlanks();
            for (int lines = 0; lines < n && at < end && fault == NO_FAULT; lines++) {
                readLine();
                skipBlanks();
            }
            length = 0;
        }

        private void readLine() {
            int wordPlace = at;
            int word = takeWord();
            if (word == NONE) {
                blame(NO_TOKEN, wordPlace);
                return;
            }
            skipBlanks();
            int numberPlace = at;
            int number = takeNumber();
            if (number == NONE) {
                blame(NO_TOKEN, numberPlace);
            } else if (number < LEAST_SAID[word] || number > MOST_SAID[word]) {
                blame(BEYOND, numberPlace);
            } else if (said[word] != NONE) {
                blame(TWICE, wordPlace);
            } else {
                said[word] = number;
                takeLineEnd();
            }
        }

        private void blame(int kind, int where) {
            fault = kind;
            place = where;
        }

        private int byteHere() {
            return at >= 0 && at < end && at < MOST_BYTES ? bytes[at] & 255 : NONE;
        }

        private void skipBlanks() {
            while (at < end && (byteHere() == 10 || byteHere() == 32)) {
                at++;
            }
        }

        private int takeWord() {
            int start = at;
            while (at < end && byteHere() >= 'a' && byteHere() <= 'z') {
                at++;
            }
            for (int word = 0; word < WORDS; word++) {
                if (spells(spelling(word), start, at - start)) {
                    return word;
                }
            }
            return NONE;
        }

        private boolean spells(String name, int start, int size) {
            if (start < 0 || size != name.length() || start + size > MOST_BYTES) {
                return false;
            }
            for (int i = 0; i < size; i++) {
                if (bytes[start + i] != name.charAt(i)) {
                    return false;
                }
            }
            return true;
        }

        private static String spelling(int word) {
            switch (word) {
                case RUN: return "run";
                case LAPS: return "laps";
                case BEND: return "bend";
                case LOOSE: return "loose";
                case BAR: return "bar";
                case APART: return "apart";
                default: return "false";
            }
        }

        private int takeNumber() {
            int number = NONE;
            while (at < end && byteHere() >= '0' && byteHere() <= '9') {
                number = Math.min(TOO_MUCH, Math.max(number, 0) * 10 + byteHere() - '0');
                at++;
            }
            return number;
        }

        private void takeLineEnd() {
            skipBlanks();
            if (byteHere() == ';') {
                at++;
            } else {
                blame(NO_TOKEN, at);
            }
        }
    }

    /** The texts that are kept, a row of numbers each, NONE for a word that a text lacks. */
    private static final class Statutes {
        private int told;
        private final int[] fromYear = new int[MOST_STATUTES];
        private final int[] lines = new int[MOST_STATUTES * WORDS];

        int keep(int year, int[] said) {
            if (told >= MOST_STATUTES || said.length != WORDS) {
                return NONE;
            }
            fromYear[told] = year;
            System.arraycopy(said, 0, lines, told * WORDS, WORDS);
            told++;
            return told - 1;
        }

        int inForce(int word, int year) {
            int latest = NONE;
            int number = UNTOLD[word];
            for (int i = 0; i < told; i++) {
                int line = lines[i * WORDS + word];
                if (line != NONE && fromYear[i] <= year && fromYear[i] >= latest) {
                    latest = fromYear[i];
                    number = line;
                }
            }
            return number;
        }
    }

    private static final class Ward {
        private boolean runs;
        private int horse = NONE;
        private int lastRan = NONE;
        private int barredTo = NONE;
        private int falseStarts;
        private int money;

        boolean mayBeChosen(int year) {
            return barredTo < year && !runs;
        }
    }

    /** All wards, and the choice of those that run. */
    private static final class Town {
        private int size;
        private final Ward[] wards = new Ward[MOST_WARDS];

        int addWard() {
            if (size >= MOST_WARDS) {
                return NONE;
            }
            wards[size] = new Ward();
            size++;
            return size - 1;
        }

        boolean has(int number) {
            return number >= 0 && number < size;
        }

        Ward find(int number) {
            return has(number) ? wards[number] : null;
        }

        boolean runs(int number) {
            Ward ward = find(number);
            return ward != null && ward.runs;
        }

        int countFree(int year) {
            int free = 0;
            for (int i = 0; i < size; i++) {
                if (wards[i].mayBeChosen(year)) {
                    free++;
                }
            }
            return free;
        }

        void chooseRunners(int run, int free, int year, Draws draws) {
            int byRight = run - run / 3;
            for (int i = 0; i < run; i++) {
                int number = i < byRight ? longestAgo(year) : freeAt(draws.below(free - i), year);
                Ward ward = find(number);
                if (ward != null) {
                    ward.runs = true;
                }
            }
        }

        private int longestAgo(int year) {
            int best = NONE;
            for (int i = 0; i < size; i++) {
                if (wards[i].mayBeChosen(year) && (best == NONE || wards[i].lastRan < wards[best].lastRan)) {
                    best = i;
                }
            }
            return best;
        }

        private int freeAt(int k, int year) {
            int ahead = 0;
            for (int i = 0; i < size; i++) {
                if (wards[i].mayBeChosen(year)) {
                    if (ahead == k) {
                        return i;
                    }
                    ahead++;
                }
            }
            return NONE;
        }

        void forgetYear() {
            for (int i = 0; i < size; i++) {
                wards[i].runs = false;
                wards[i].horse = NONE;
                wards[i].falseStarts = 0;
            }
        }
    }

    /** All horses, and the choice of an even set of them. */
    private static final class Stable {
        private int size;
        private final int[] marks = new int[MOST_HORSES];
        private final boolean[] isSound = new boolean[MOST_HORSES];
        private final int[] picked = new int[MOST_RUNNERS];
        private final int[] tried = new int[MOST_RUNNERS];

        int addHorse(int mark) {
            if (size >= MOST_HORSES) {
                return NONE;
            }
            marks[size] = mark;
            isSound[size] = true;
            size++;
            return size - 1;
        }

        boolean has(int horse) {
            return horse >= 0 && horse < size;
        }

        int markOf(int horse) {
            return has(horse) ? marks[horse] : 0;
        }

        /**
         * Tries the span between the marks of every two sound horses. In the least span that holds enough of them
         * every set is as even as can be, so the first ones by numbers are that span's first set.
         */
        int pickEven(int run) {
            int least = NONE;
            for (int low = 0; low < size; low++) {
                for (int high = 0; high < size; high++) {
                    int spread = marks[high] - marks[low];
                    boolean worth = spread >= 0 && (least == NONE || spread <= least);
                    if (worth && isSound[low] && isSound[high] && fillTried(run, marks[low], marks[high])
                            && (spread != least || triedIsAhead(run))) {
                        least = spread;
                        System.arraycopy(tried, 0, picked, 0, MOST_RUNNERS);
                    }
                }
            }
            return least;
        }

        private boolean fillTried(int run, int lowMark, int highMark) {
            int filled = 0;
            for (int i = 0; i < size && filled < run && filled < MOST_RUNNERS; i++) {
                if (isSound[i] && marks[i] >= lowMark && marks[i] <= highMark) {
                    tried[filled] = i;
                    filled++;
                }
            }
            return filled == run;
        }

        private boolean triedIsAhead(int run) {
            for (int i = 0; i < run && i < MOST_RUNNERS; i++) {
                if (tried[i] != picked[i]) {
                    return tried[i] < picked[i];
                }
            }
            return false;
        }
    }

    /** The wards that run this year, their places at the rope and who was seen there. */
    private static final class Rope {
        private int run;
        private final int[] runners = new int[MOST_RUNNERS];
        private final int[] places = new int[MOST_RUNNERS];
        private final int[] seenAt = new int[MOST_RUNNERS];
        private final int[] left = new int[MOST_RUNNERS];

        void listRunners(Town town) {
            run = 0;
            for (int i = 0; i < town.size && run < MOST_RUNNERS; i++) {
                if (town.runs(i)) {
                    runners[run] = i;
                    run++;
                }
            }
        }

        void drawHorses(Town town, int[] horses, Draws draws) {
            layOut(horses);
            for (int i = 0; i < run; i++) {
                int horse = takeLeft(draws.below(run - i));
                Ward ward = town.find(runners[i]);
                if (ward != null) {
                    ward.horse = horse;
                }
            }
        }

        void drawPlaces(Draws draws) {
            layOut(runners);
            for (int place = 0; place < run; place++) {
                places[place] = takeLeft(draws.below(run - place));
            }
            forgetSeen();
        }

        private void layOut(int[] from) {
            for (int i = 0; i < run && i < from.length; i++) {
                left[i] = from[i];
            }
        }

        private int takeLeft(int k) {
            if (k < 0 || k >= run) {
                return NONE;
            }
            int taken = left[k];
            closeGap(left, k);
            return taken;
        }

        private void closeGap(int[] row, int gap) {
            for (int i = gap; i + 1 < run && i + 1 < row.length; i++) {
                row[i] = row[i + 1];
            }
        }

        void forgetSeen() {
            Arrays.fill(seenAt, NONE);
        }

        private boolean hasOther(int place) {
            return seenAt[place] != NONE && seenAt[place] != places[place];
        }

        int countOthers() {
            int others = 0;
            for (int place = 0; place < run; place++) {
                if (hasOther(place)) {
                    others++;
                }
            }
            return others;
        }

        void addFalseStarts(Town town) {
            for (int place = 0; place < run; place++) {
                Ward ward = town.find(places[place]);
                if (ward != null && hasOther(place)) {
                    ward.falseStarts++;
                }
            }
        }

        void sendBack(Town town, int limit) {
            for (int i = 0; i < run && limit > 0; i++) {
                Ward ward = town.find(runners[i]);
                if (ward != null && ward.falseStarts >= limit) {
                    moveToEnd(runners[i]);
                    ward.falseStarts = 0;
                }
            }
        }

        private void moveToEnd(int ward) {
            for (int place = 0; place < run; place++) {
                if (places[place] == ward) {
                    closeGap(places, place);
                    places[run - 1] = ward;
                    return;
                }
            }
        }
    }

    /** A ward's horse in the race. */
    private static final class Runner {
        private int ward;
        private int topPace;
        private int dist;
        private int lane;
        private int pace;
        private boolean riderless;
        private int arrivedAs;
        private int bumps;

        void begin(int itsWard, int mark, int place) {
            ward = itsWard;
            topPace = 3 + mark / 250;
            dist = -(place / LANES);
            lane = place % LANES;
            pace = 0;
            riderless = false;
            arrivedAs = NONE;
            bumps = 0;
        }

        boolean onRing() {
            return arrivedAs == NONE;
        }

        boolean isCloseAheadOf(Runner other) {
            return dist == other.dist + 1 || dist == other.dist + 2;
        }

        boolean goesAheadOf(Runner other) {
            return dist > other.dist || dist == other.dist && lane < other.lane;
        }
    }

    /** The ring, the riders' orders and the race that is stepped by them. */
    private static final class Race {
        private int cells = FIRST_CELLS;
        private final boolean[] bends = new boolean[MOST_CELLS];
        private final int[] orderHow = new int[MOST_WARDS];
        private final int[] orderOther = new int[MOST_WARDS];
        private int size;
        private final Runner[] runners = new Runner[MOST_RUNNERS];
        private final int[] turns = new int[MOST_RUNNERS];
        private final Draws draws = new Draws();
        private int laps;
        private int safePace;
        private boolean looseWins;
        private int ticks;
        private int arrived;
        private int winner = NONE;

        Race() {
            for (int i = 0; i < MOST_RUNNERS; i++) {
                runners[i] = new Runner();
            }
        }

        void layRing(int itsCells) {
            cells = itsCells;
            for (int i = 0; i < MOST_CELLS; i++) {
                bends[i] = false;
            }
        }

        void begin(int seed) {
            draws.begin(seed);
            size = 0;
            ticks = 0;
            arrived = 0;
            winner = NONE;
        }

        void setLaws(int itsLaps, int itsBend, int itsLoose) {
            laps = itsLaps;
            safePace = itsBend;
            looseWins = itsLoose == 1;
        }

        void enter(int ward, int mark) {
            if (size < MOST_RUNNERS) {
                runners[size].begin(ward, mark, size);
                size++;
            }
        }

        Runner find(int ward) {
            for (int i = 0; i < size; i++) {
                if (runners[i].ward == ward) {
                    return runners[i];
                }
            }
            return null;
        }

        boolean isOver() {
            return arrived >= size || ticks >= MOST_TICKS;
        }

        void tick() {
            int onRing = lineUp();
            for (int i = 0; i < onRing; i++) {
                takeTurn(runners[turns[i]]);
            }
            ticks++;
        }

        private int lineUp() {
            int lined = 0;
            for (int i = 0; i < size; i++) {
                if (runners[i].onRing()) {
                    insertTurn(i, lined);
                    lined++;
                }
            }
            return lined;
        }

        private void insertTurn(int number, int lined) {
            int at = lined;
            while (at > 0 && runners[number].goesAheadOf(runners[turns[at - 1]])) {
                turns[at] = turns[at - 1];
                at--;
            }
            turns[at] = number;
        }

        private void takeTurn(Runner runner) {
            if (!runner.riderless) {
                followOrders(runner);
            }
            setPace(runner);
            int steps = runner.pace;
            for (int i = 0; i < steps; i++) {
                if (!stepOn(runner)) {
                    return;
                }
            }
        }

        private void followOrders(Runner runner) {
            int how = runner.ward >= 0 && runner.ward < MOST_WARDS ? orderHow[runner.ward] : NO_ORDERS;
            Runner other = how == NO_ORDERS ? null : find(orderOther[runner.ward]);
            if (other == null || !other.onRing() || !runner.isCloseAheadOf(other)) {
                return;
            }
            int lane = runner.lane;
            if (how == HINDER && Math.abs(lane - other.lane) == 1 && isFree(runner.dist, other.lane)) {
                lane = other.lane;
            } else if (how == HELP && lane == other.lane) {
                lane = laneBeside(runner.dist, lane);
            }
            if (lane != NONE) {
                runner.lane = lane;
            }
        }

        private void setPace(Runner runner) {
            int pace = Math.min(runner.pace + 1, runner.topPace);
            if (draws.below(8) == 0) {
                pace--;
            }
            runner.pace = Math.max(pace, 1);
        }

        /** Whether it may go on in this tick. */
        private boolean stepOn(Runner runner) {
            int ahead = runner.dist + 1;
            int lane = isFree(ahead, runner.lane) ? runner.lane : laneBeside(ahead, runner.lane);
            if (lane == NONE) {
                runner.pace = 0;
                runner.bumps++;
                return false;
            }
            runner.dist = ahead;
            runner.lane = lane;
            boolean fell = fallsHere(runner);
            if (fell) {
                runner.riderless = true;
                runner.pace = 1;
            }
            if (ahead == laps * cells) {
                arrive(runner);
                return false;
            }
            return !fell;
        }

        private boolean fallsHere(Runner runner) {
            return isBend(runner.dist) && !runner.riderless && runner.pace > safePace && draws.below(4) == 0;
        }

        private void arrive(Runner runner) {
            runner.arrivedAs = arrived;
            arrived++;
            if (winner == NONE && (looseWins || !runner.riderless)) {
                winner = runner.ward;
            }
        }

        private int laneBeside(int dist, int lane) {
            if (lane > 0 && isFree(dist, lane - 1)) {
                return lane - 1;
            }
            return lane < LANES - 1 && isFree(dist, lane + 1) ? lane + 1 : NONE;
        }

        private boolean isFree(int dist, int lane) {
            for (int i = 0; i < size && cells > 0; i++) {
                Runner runner = runners[i];
                if (runner.onRing() && runner.lane == lane && (runner.dist - dist) % cells == 0) {
                    return false;
                }
            }
            return true;
        }

        private boolean isBend(int dist) {
            int cell = cells > 0 ? Math.floorMod(dist, cells) : NONE;
            return cell >= 0 && cell < MOST_CELLS && bends[cell];
        }
    }

    /** What wards have promised to pay if they win the next race. */
    private static final class Pacts {
        private int size;
        private final int[] payers = new int[MOST_PACTS];
        private final int[] payees = new int[MOST_PACTS];
        private final int[] sums = new int[MOST_PACTS];

        int add(int payer, int payee, int sum) {
            if (size >= MOST_PACTS) {
                return NONE;
            }
            payers[size] = payer;
            payees[size] = payee;
            sums[size] = sum;
            size++;
            return size;
        }

        void settle(Town town, int winner) {
            for (int i = 0; i < size; i++) {
                Ward payer = town.find(payers[i]);
                Ward payee = town.find(payees[i]);
                if (payers[i] == winner && payer != null && payee != null) {
                    payer.money -= sums[i];
                    payee.money += sums[i];
                }
            }
            size = 0;
        }
    }
}
