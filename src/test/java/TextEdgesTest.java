/** The edges that part 1 of the terms and promises 1 to 5 name, a sentence each. */
public final class TextEdgesTest {
    private static final String[] WORDS = {"run", "laps", "bend", "loose", "bar", "apart", "false"};
    private static final int[] LEAST = {2, 1, 1, 0, 0, 0, 0};
    private static final int[] MOST = {10, 5, 9, 1, 9, 9, 9};
    private static final int[] UNTOLD = {3, 1, 9, 0, 0, 0, 0};
    private static final int BLANKS = 0x20202020;

    public static void main(String[] args) {
        newCounts();
        newRing();
        newTape();
        feedHighestFirst();
        feedFull();
        feedBehindFull();
        statuteFirstBytes();
        statuteOfNoBytes();
        statuteEmptiesTape();
        statuteWrongN();
        statuteWrongYear();
        statuteTen();
        faultBehindRefusal();
        faultOfAGoodText();
        faultOfAnotherWhat();
        lawOfAnotherWhat();
        lawOfAnotherYear();
        emptyText();
        leastAndMost();
        beyondLeastAndMost();
        wrappedNumbers();
        leadingNoughts();
        besideDigits();
        blanks();
        besideBlanks();
        besideSmallLetters();
        highBytes();
        wordsInARow();
        tokensOutOfPlace();
        moreMustCome();
        firstAlongTheText();
        wordAlreadyThere();
        wordAlreadyThereBehindItsNumber();
        wordAlreadyThereAheadOfItsEnd();
        inForceFromYear();
        latestYearCounts();
        toldLastCounts();
        withoutAny();
        Due.end();
    }

    private static void fault(String text, int n, int kind, int place) {
        RopeRace x = new RopeRace();
        Due.feed(x, text);
        String told = "[" + text + "] to " + n;
        Due.is("statute " + told, x.statute(n, 0), kind == 0 ? 0 : -1);
        Due.is("fault(0) of " + told, x.fault(0), kind);
        Due.is("fault(1) of " + told, x.fault(1), place);
        Due.is("count(6) of " + told, x.count(6), kind == 0 ? 1 : 0);
    }

    private static void fault(String text, int kind, int place) {
        fault(text, text.length(), kind, place);
    }

    private static void good(String text) {
        fault(text, 0, -1);
    }

    private static void newCounts() {
        Due.sentence("Promise 1: YEAR 0, no WARDS, HORSES, STATUTES, PACTS");
        RopeRace x = new RopeRace();
        for (int what = 0; what < 7; what++) {
            Due.is("count(" + what + ")", x.count(what), 0);
        }
        Due.is("look(0, 4)", x.look(0, 4), -1);
        Due.is("sound(0)", x.sound(0, true), false);
        Due.is("pact(0, 1)", x.pact(0, 1, 1), -1);
        Due.is("fault(0)", x.fault(0), 0);
        Due.is("fault(1)", x.fault(1), -1);
        Due.is("won", x.won(), -1);
        Due.is("drawn(0, 0)", x.drawn(0, 0), -1);
        Due.is("race(0, 0)", x.race(0, 0), -100);
    }

    private static void newRing() {
        Due.sentence("Promise 1: a ring of 20 CELLS without BENDS");
        RopeRace x = new RopeRace();
        Due.is("count(7)", x.count(7), 20);
        Due.is("the last cell", x.bend(19, false), true);
        Due.is("no cell behind it", x.bend(20, false), false);
        int falls = 0;
        for (int seed = 0; seed < 20; seed++) {
            RopeRace y = Due.town("run 2; bend 1; laps 5;", 2, 999, 999);
            Due.prepare(y);
            y.drop(seed);
            y.go(400);
            falls += y.race(0, 3) + y.race(1, 3);
        }
        Due.is("falls without bends", falls, 0);
    }

    private static void newTape() {
        Due.sentence("Promise 1: an empty TAPE");
        Due.is("statute(1, 0)", new RopeRace().statute(1, 0), -2);
        Due.is("feed", new RopeRace().feed(0, 0, 0, 0, 0), 20);
    }

    private static void feedHighestFirst() {
        Due.sentence("Promise 2: four of each number, the highest first");
        RopeRace x = new RopeRace();
        Due.is("feed", x.feed(0x72756e33, 0x3b6c6170, 0x7320323b, 0x62656e64, 0x20343b20), 20);
        Due.is("run3;laps 2;bend 4;", x.statute(20, 0), 0);
        Due.is("run", x.law(0, 0), 3);
        Due.is("laps", x.law(1, 0), 2);
        Due.is("bend", x.law(2, 0), 4);
        for (int place = 0; place < 20; place++) {
            int[] w = {BLANKS, BLANKS, BLANKS, BLANKS, BLANKS};
            w[place / 4] |= 0x80 << 24 - place % 4 * 8;
            x.feed(w[0], w[1], w[2], w[3], w[4]);
            Due.is("a byte above 127 at " + place, x.statute(20, 0), -1);
            Due.is("its place", x.fault(1), place);
        }
    }

    private static void feedFull() {
        Due.sentence("Promise 2: NONE, and none come, if it would have more than 600");
        RopeRace x = new RopeRace();
        int[] w = Due.words("bar 5;");
        for (int i = 1; i < 30; i++) {
            Due.is("feed " + i, x.feed(BLANKS, BLANKS, BLANKS, BLANKS, BLANKS), 20 * i);
        }
        Due.is("feed to 600", x.feed(w[0], w[1], w[2], w[3], w[4]), 600);
        Due.is("feed to 620", x.feed(1, 1, 1, 1, 1), -1);
        Due.is("feed to 620 once more", x.feed(1, 1, 1, 1, 1), -1);
        Due.is("statute(601)", x.statute(601, 0), -2);
        Due.is("statute(600)", x.statute(600, 0), 0);
        Due.is("what the last feed said", x.law(4, 0), 5);
    }

    private static void feedBehindFull() {
        Due.sentence("Promise 3: it is empty then; of a full TAPE");
        RopeRace x = new RopeRace();
        for (int i = 0; i < 30; i++) {
            x.feed(BLANKS, BLANKS, BLANKS, BLANKS, BLANKS);
        }
        x.statute(600, 0);
        for (int i = 1; i <= 30; i++) {
            Due.is("feed " + i, x.feed(BLANKS, BLANKS, BLANKS, BLANKS, 0x202020ff), 20 * i);
        }
        Due.is("statute(600)", x.statute(600, 0), -1);
        Due.is("the first fault", x.fault(1), 19);
    }

    private static void statuteFirstBytes() {
        Due.sentence("Promise 3: The TAPE's first n bytes are a STATUTE");
        fault("run 2; jump", 6, 0, -1);
        fault("run 2; jump", 7, 0, -1);
        fault("run 2; jump", 8, 1, 7);
        fault("run 10;", 7, 0, -1);
        fault("run 10;", 6, 1, 6);
        fault("run 10;", 5, 2, 4);
        fault("run 10;", 4, 1, 4);
        fault("run 10;", 3, 1, 3);
        fault("run 10;", 2, 1, 0);
        fault("run 10;", 20, 0, -1);
    }

    private static void statuteOfNoBytes() {
        Due.sentence("Promise 3: The TAPE's first n bytes; none of them");
        RopeRace x = new RopeRace();
        Due.is("of an empty tape", x.statute(0, 0), 0);
        Due.feed(x, "jump");
        Due.is("of a tape with bytes", x.statute(0, 99), 1);
        Due.is("the tape is empty", x.statute(1, 0), -2);
        for (int what = 0; what < 7; what++) {
            Due.is("law(" + what + ", 99)", x.law(what, 99), UNTOLD[what]);
        }
    }

    private static void statuteEmptiesTape() {
        Due.sentence("Promise 3: it is empty then");
        String[] texts = {"run 2;", "run 2; and more that is not read", "jump", "run 11;", "run 2; run 2;"};
        for (String text : texts) {
            RopeRace x = new RopeRace();
            Due.feed(x, text);
            x.statute(Math.min(13, text.length()), 0);
            Due.is("statute(1) behind [" + text + "]", x.statute(1, 0), -2);
            Due.is("feed behind [" + text + "]", x.feed(0, 0, 0, 0, 0), 20);
        }
    }

    private static void statuteWrongN() {
        Due.sentence("Promise 3: -2, and the TAPE stays: no such n");
        for (int n : Due.beyond(0, 20)) {
            Twin.refused("statute(" + n + ", 0) of 20", () -> Due.stage(0), x -> x.statute(n, 0), -2);
        }
        for (int n : Due.beyond(0, 0)) {
            Twin.refused("statute(" + n + ", 0) of none", RopeRace::new, x -> x.statute(n, 0), -2);
        }
    }

    private static void statuteWrongYear() {
        Due.sentence("Promise 3: -2, and the TAPE stays: no such YEAR");
        for (int year : Due.beyond(0, 99)) {
            Twin.refused("statute(16, " + year + ")", () -> Due.stage(0), x -> x.statute(16, year), -2);
        }
        RopeRace x = new RopeRace();
        Due.is("year 0", Due.tell(x, "run 4;", 0), 0);
        Due.is("year 99", Due.tell(x, "run 5;", 99), 1);
    }

    private static RopeRace tenStatutes() {
        RopeRace x = Due.stage(0);
        x.statute(0, 0);
        for (int i = 2; i < 10; i++) {
            Due.is("number", Due.tell(x, "run 3;", 10 * i), i);
            Due.is("count(6)", x.count(6), i + 1);
        }
        Due.feed(x, "laps 5;");
        return x;
    }

    private static void statuteTen() {
        Due.sentence("Promise 3: -2, and the TAPE stays: there are 10");
        Twin.refused("an eleventh", TextEdgesTest::tenStatutes, x -> x.statute(7, 0), -2);
        Twin.refused("an eleventh of no bytes", TextEdgesTest::tenStatutes, x -> x.statute(0, 0), -2);
        Twin.refused("an eleventh with a fault", TextEdgesTest::tenStatutes, x -> x.statute(3, 0), -2);
        RopeRace x = new RopeRace();
        for (int i = 0; i < 12; i++) {
            Due.is("a text with a fault takes no number", Due.tell(x, "run 1;", 0), -1);
        }
        Due.is("the first", Due.tell(x, "run 2;", 0), 0);
    }

    private static void faultBehindRefusal() {
        Due.sentence("Promise 4: Of the latest statute() that was not -2");
        RopeRace x = new RopeRace();
        Due.tell(x, "run 2; laps 6;", 0);
        Due.is("refused", x.statute(1, 0), -2);
        Due.is("fault(0)", x.fault(0), 2);
        Due.is("fault(1)", x.fault(1), 12);
        Due.tell(x, " jump", 0);
        Due.is("fault(0) of the later one", x.fault(0), 1);
        Due.is("fault(1) of the later one", x.fault(1), 1);
    }

    private static void faultOfAGoodText() {
        Due.sentence("Promise 4: its FAULT (0), its place (NONE)");
        RopeRace x = new RopeRace();
        Due.tell(x, "run 2; run 3;", 0);
        Due.tell(x, "run 2;", 0);
        Due.is("fault(0)", x.fault(0), 0);
        Due.is("fault(1)", x.fault(1), -1);
        Due.tell(x, "run 2; run 3;", 0);
        x.statute(0, 0);
        Due.is("fault(0) of no bytes", x.fault(0), 0);
        Due.is("fault(1) of no bytes", x.fault(1), -1);
    }

    private static void faultOfAnotherWhat() {
        Due.sentence("Promise 4: NONE for another what");
        RopeRace x = new RopeRace();
        Due.tell(x, "run 2; run 3;", 0);
        for (int what : Due.beyond(0, 1)) {
            Due.is("fault(" + what + ")", x.fault(what), -1);
        }
    }

    private static void lawOfAnotherWhat() {
        Due.sentence("Promise 5: NONE: no such what");
        for (int what : Due.beyond(0, 6)) {
            Due.is("law(" + what + ", 0)", new RopeRace().law(what, 0), -1);
        }
    }

    private static void lawOfAnotherYear() {
        Due.sentence("Promise 5: NONE: no such YEAR");
        for (int year : Due.beyond(0, 99)) {
            Due.is("law(0, " + year + ")", new RopeRace().law(0, year), -1);
        }
    }

    private static void emptyText() {
        Due.sentence("Terms 1: TEXT: { WORD N ';' }; none of them");
        good("");
        good(" ");
        good(" \n \n");
        good(" ".repeat(600));
    }

    private static void leastAndMost() {
        Due.sentence("Terms 1: WORDS and their N; the least and the most");
        for (int i = 0; i < WORDS.length; i++) {
            for (int n : new int[] {LEAST[i], MOST[i]}) {
                RopeRace x = new RopeRace();
                String text = WORDS[i] + " " + n + ";";
                Due.is(text, Due.tell(x, text, 0), 0);
                Due.is("law of " + text, x.law(i, 0), n);
            }
        }
    }

    private static void beyondLeastAndMost() {
        Due.sentence("Terms 1: 2 an N beyond what is said (at it)");
        for (int i = 0; i < WORDS.length; i++) {
            fault(WORDS[i] + " " + (MOST[i] + 1) + ";", 2, WORDS[i].length() + 1);
            fault(WORDS[i] + (MOST[i] + 1) + ";", 2, WORDS[i].length());
            fault(WORDS[i] + "\n  100;", 2, WORDS[i].length() + 3);
            if (LEAST[i] > 0) {
                fault(WORDS[i] + " " + (LEAST[i] - 1) + ";", 2, WORDS[i].length() + 1);
                fault(WORDS[i] + " 000;", 2, WORDS[i].length() + 1);
            }
        }
    }

    private static void wrappedNumbers() {
        Due.sentence("Terms 1: 2 an N beyond what is said; digits that would wrap round to what may be said");
        // Behind each word 2 or 1 more than a power of 2: of 8, 16, 32 and 64 bits.
        String[] powers = {"258", "65538", "4294967298", "18446744073709551618"};
        for (String power : powers) {
            fault("run " + power + ";", 2, 4);
            fault("bar " + power + ";", 2, 4);
        }
        fault("loose 4294967297;", 2, 6);
        fault("loose 2147483648;", 2, 6);
        fault("run 1" + "0".repeat(590) + ";", 2, 4);
        fault("run " + "9".repeat(596), 2, 4);
    }

    private static void leadingNoughts() {
        Due.sentence("Terms 1: N: digits");
        RopeRace x = new RopeRace();
        Due.is("noughts ahead", Due.tell(x, "run " + "0".repeat(580) + "10; bar 00;", 0), 0);
        Due.is("run", x.law(0, 0), 10);
        Due.is("bar", x.law(4, 0), 0);
        good("laps 01;");
    }

    private static void besideDigits() {
        Due.sentence("Terms 1: N: digits; the bytes beside them");
        fault("run /;", 1, 4);
        fault("run :;", 1, 4);
        fault("run 2/;", 1, 5);
        fault("run 2:;", 1, 5);
        fault("run -2;", 1, 4);
        fault("run +2;", 1, 4);
        RopeRace x = new RopeRace();
        Due.is("0 and 9", Due.tell(x, "bar 09; apart 0;", 0), 0);
        Due.is("bar", x.law(4, 0), 9);
    }

    private static void blanks() {
        Due.sentence("Terms 1: Blanks 10, 32");
        good("\n run \n 2 \n ; \n laps \n 1 \n ; \n ");
        good("run2;laps1;");
        good("run\n2\n;\nlaps\n1\n;\n");
    }

    private static void besideBlanks() {
        Due.sentence("Terms 1: Blanks 10, 32; no others");
        for (int other : new int[] {0, 9, 11, 12, 13, 31, 33, 127, 138, 160, 255}) {
            String blank = String.valueOf((char) other);
            fault(blank + "run 2;", 1, 0);
            fault("run" + blank + "2;", 1, 3);
            fault("run 2" + blank + ";", 1, 5);
            fault("run 2;" + blank, 1, 6);
        }
    }

    private static void besideSmallLetters() {
        Due.sentence("Terms 1: small letters in a row; the bytes beside them");
        for (char other : new char[] {'`', '{', 'A', 'Z', '@', '[', '_'}) {
            fault(other + "run 2;", 1, 0);
            fault("run" + other + " 2;", 1, 3);
        }
        fault("Run 2;", 1, 0);
        fault("RUN 2;", 1, 0);
        fault("ruN 2;", 1, 0);
    }

    private static void highBytes() {
        Due.sentence("Terms 1: 1 what is no TOKEN; bytes that are a letter's, a digit's or a ;'s but for their highest bit");
        fault("\u00f2un 2;", 1, 0);
        fault("ru\u00ee 2;", 1, 0);
        fault("run \u00b2;", 1, 4);
        fault("run 2\u00bb", 1, 5);
        fault("run 2;\u00ff", 1, 6);
    }

    private static void wordsInARow() {
        Due.sentence("Terms 1: one of these words, small letters in a row");
        for (String word : WORDS) {
            fault(word.substring(0, word.length() - 1) + " 2;", 1, 0);
            fault(word.substring(1) + " 2;", 1, 0);
            fault(word + "a 2;", 1, 0);
            fault(word + "z 2;", 1, 0);
            fault(word + word + " 2;", 1, 0);
            fault("a" + word + " 2;", 1, 0);
            fault(word.substring(0, 1) + " " + word.substring(1) + " 2;", 1, 0);
            for (int i = 0; i < word.length(); i++) {
                fault(word.substring(0, i) + "q" + word.substring(i + 1) + " 2;", 1, 0);
            }
        }
        fault("a 2;", 1, 0);
        fault("runlaps 2;", 1, 0);
        fault("z".repeat(600), 1, 0);
        fault(" ".repeat(598) + "ru", 1, 598);
    }

    private static void tokensOutOfPlace() {
        Due.sentence("Terms 1: 1 or can't stand there");
        fault("2", 1, 0);
        fault(";", 1, 0);
        fault("run ;", 1, 4);
        fault("run run 2;", 1, 4);
        fault("run jump;", 1, 4);
        fault("run 2 3;", 1, 6);
        fault("run 2 laps 1;", 1, 6);
        fault("run 2laps 1;", 1, 5);
        fault("run 2 jump", 1, 6);
        fault("run 2;;", 1, 6);
        fault("run 2; 2", 1, 7);
    }

    private static void moreMustCome() {
        Due.sentence("Terms 1: (the length, if more must come)");
        fault("run", 1, 3);
        fault("run  ", 1, 5);
        fault("run \n ", 1, 6);
        fault("run 2", 1, 5);
        fault("run 2 \n", 1, 7);
        fault("run 2; laps", 1, 11);
        fault("run 2; run", 1, 10);
        fault("run 2; run ", 1, 11);
        fault(" ".repeat(597) + "run", 1, 600);
        fault(" ".repeat(595) + "run 2", 1, 600);
        fault("run 2; of which less is read", 5, 1, 5);
        fault("run 2; of which less is read", 3, 1, 3);
    }

    private static void firstAlongTheText() {
        Due.sentence("Terms 1: FAULTS, the first along the text");
        fault("run 11; jump 1; run 2;", 2, 4);
        fault("jump 1; run 11;", 1, 0);
        fault("run 2; jump 1; run 2;", 1, 7);
        fault("run 2; run 2; jump 1;", 3, 7);
        fault("run 2; run 2; laps 6;", 3, 7);
        fault("run 11 jump", 2, 4);
        fault("run 11", 2, 4);
        fault("laps 6x", 2, 5);
    }

    private static void wordAlreadyThere() {
        Due.sentence("Terms 1: 3 a WORD that the text has already (at it)");
        for (int i = 0; i < WORDS.length; i++) {
            String line = WORDS[i] + " " + LEAST[i] + ";";
            fault(line + line, 3, line.length());
            String other = WORDS[(i + 1) % 7] + " 1;";
            if (LEAST[(i + 1) % 7] < 2) {
                fault(line + other + line, 3, line.length() + other.length());
            }
        }
        RopeRace x = new RopeRace();
        Due.is("a text", Due.tell(x, "run 2;", 0), 0);
        Due.is("another text may have it", Due.tell(x, "run 4;", 0), 1);
        Due.is("a text with a fault", Due.tell(x, "laps 2; jump", 0), -1);
        Due.is("its words are forgotten", Due.tell(x, "laps 3;", 0), 2);
    }

    private static void wordAlreadyThereBehindItsNumber() {
        Due.sentence("Terms 1: 3 behind what is wrong with its N");
        fault("run 2; run 11;", 2, 11);
        fault("run 2; run 1;", 2, 11);
        fault("run 2; run;", 1, 10);
        fault("run 2; run x;", 1, 11);
        fault("run 2; run laps;", 1, 11);
        fault("run 2; run", 1, 10);
    }

    private static void wordAlreadyThereAheadOfItsEnd() {
        Due.sentence("Terms 1: 3 ahead of a ; that lacks");
        fault("run 2; run 2", 3, 7);
        fault("run 2; run 2 ", 3, 7);
        fault("run 2; run 2 jump", 3, 7);
        fault("run 2; run 2 3;", 3, 7);
        fault("run 2; run 2x", 3, 7);
    }

    private static void inForceFromYear() {
        Due.sentence("Terms 1: each in force from a told YEAR on");
        for (int from : new int[] {0, 1, 50, 99}) {
            RopeRace x = new RopeRace();
            Due.tell(x, "run 7;", from);
            for (int year = 0; year <= 99; year++) {
                Due.is("from " + from + ": law(0, " + year + ")", x.law(0, year), year < from ? 3 : 7);
            }
        }
    }

    private static void latestYearCounts() {
        Due.sentence("Terms 1: that with the latest YEAR from which it is in force counts");
        RopeRace x = new RopeRace();
        Due.tell(x, "run 6;", 20);
        Due.tell(x, "run 5;", 10);
        Due.tell(x, "run 4;", 0);
        Due.tell(x, "laps 2;", 30);
        int[] years = {0, 9, 10, 19, 20, 29, 30, 99};
        int[] runs = {4, 4, 5, 5, 6, 6, 6, 6};
        for (int i = 0; i < years.length; i++) {
            Due.is("law(0, " + years[i] + ")", x.law(0, years[i]), runs[i]);
        }
    }

    private static void toldLastCounts() {
        Due.sentence("Terms 1: of several that of the TEXT told last");
        RopeRace x = new RopeRace();
        Due.tell(x, "run 8; bar 1;", 0);
        Due.tell(x, "run 5;", 0);
        Due.tell(x, "run 9; bar 2;", 99);
        Due.tell(x, "run 7;", 99);
        Due.tell(x, "run 11; bar 3;", 99);
        Due.is("law(0, 0)", x.law(0, 0), 5);
        Due.is("law(4, 0)", x.law(4, 0), 1);
        Due.is("law(0, 98)", x.law(0, 98), 5);
        Due.is("law(0, 99)", x.law(0, 99), 7);
        Due.is("law(4, 99)", x.law(4, 99), 2);
    }

    private static void withoutAny() {
        Due.sentence("Terms 1: without any: run 3, laps 1, bend 9, others 0");
        for (int what = 0; what < 7; what++) {
            RopeRace x = new RopeRace();
            for (int other = 0; other < 7; other++) {
                if (other != what) {
                    Due.tell(x, WORDS[other] + LEAST[other] + ";", 0);
                }
            }
            Due.is("law(" + what + ", 0)", x.law(what, 0), UNTOLD[what]);
            Due.is("law(" + what + ", 99)", x.law(what, 99), UNTOLD[what]);
        }
    }
}
