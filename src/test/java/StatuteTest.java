/** Promises 1 to 5: a new object, feed, statute, fault, law. */
public final class StatuteTest {
    public static void main(String[] args) {
        newObject();
        feedBytes();
        feedLimit();
        statuteNumbers();
        statuteRefused();
        faultsOfOne();
        faultsOfTwo();
        faultsOfThree();
        faultStays();
        goodTexts();
        lawByYears();
        lawBounds();
        Due.end();
    }

    private static void newObject() {
        RopeRace x = new RopeRace();
        int[] counts = {0, 0, 0, 0, 0, 0, 0, 20};
        for (int what = 0; what < counts.length; what++) {
            Due.is("new: count(" + what + ")", x.count(what), counts[what]);
        }
        Due.is("new: fault(0)", x.fault(0), 0);
        Due.is("new: fault(1)", x.fault(1), -1);
        Due.is("new: won", x.won(), -1);
        Due.is("new: look(0, 4)", x.look(0, 4), -1);
        Due.is("new: drawn(0, 0)", x.drawn(0, 0), -1);
        Due.is("new: race(0, 0)", x.race(0, 0), -100);
        Due.is("new: bend(19)", x.bend(19, true), true);
        Due.is("new: bend(20)", x.bend(20, true), false);
        Due.is("new: statute(1, 0) of an empty tape", x.statute(1, 0), -2);
        Due.is("new: feed", x.feed(0, 0, 0, 0, 0), 20);
    }

    private static void feedBytes() {
        RopeRace x = new RopeRace();
        Due.is("feed run 2;", x.feed(0x72756e20, 0x323b2020, 0x20202020, 0x20202020, 0x200a0a20), 20);
        Due.is("feed laps 5;", x.feed(0x6c617073, 0x20353b20, 0x20202020, 0x20202020, 0x20202020), 40);
        Due.is("both feeds are one text", x.statute(40, 0), 0);
        Due.is("its run", x.law(0, 0), 2);
        Due.is("its laps", x.law(1, 0), 5);
        x.feed(0x20202020, 0x20202020, 0x20202020, 0x20202020, 0x202020f2);
        Due.is("a high byte is no letter", x.statute(20, 0), -1);
        Due.is("its place is the last one", x.fault(1), 19);
    }

    private static void feedLimit() {
        RopeRace x = new RopeRace();
        for (int i = 1; i <= 30; i++) {
            Due.is("feed " + i, x.feed(0x20202020, 0x20202020, 0x20202020, 0x20202020, 0x20202020), 20 * i);
        }
        Due.is("feed above 600", x.feed(1, 1, 1, 1, 1), -1);
        Due.is("statute(601)", x.statute(601, 0), -2);
        Due.is("statute(600) of blanks", x.statute(600, 0), 0);
        Due.is("the tape is empty then", x.feed(1, 1, 1, 1, 1), 20);
    }

    private static void statuteNumbers() {
        RopeRace x = new RopeRace();
        for (int i = 0; i < 10; i++) {
            Due.is("statute " + i, Due.tell(x, "run 2;", i), i);
            Due.is("count(6)", x.count(6), i + 1);
        }
        Due.is("an eleventh", Due.tell(x, "run 4;", 0), -2);
        Due.is("an eleventh with a fault", x.statute(1, 0), -2);
        Due.is("fault(0) is the tenth's", x.fault(0), 0);
        Due.is("the tape stays", x.feed(0, 0, 0, 0, 0), 40);
        Due.is("count(6) at its end", x.count(6), 10);
    }

    private static void statuteRefused() {
        RopeRace x = new RopeRace();
        Due.feed(x, "bar 4; nonsense");
        Due.is("n -1", x.statute(-1, 0), -2);
        Due.is("n above the tape", x.statute(21, 0), -2);
        Due.is("year -1", x.statute(6, -1), -2);
        Due.is("year 100", x.statute(6, 100), -2);
        Due.is("the tape stays", x.feed(0, 0, 0, 0, 0), 40);
        Due.is("the first bytes alone", x.statute(6, 99), 0);
        Due.is("law of 98", x.law(4, 98), 0);
        Due.is("law of 99", x.law(4, 99), 4);
        Due.is("no bytes at all are a text", x.statute(0, 0), 1);
        Due.is("one byte of an empty tape", x.statute(1, 0), -2);
        Due.is("a fault", Due.tell(x, "bar;", 0), -1);
        Due.is("the tape is empty with a fault", x.statute(1, 0), -2);
        Due.is("it is no statute", x.count(6), 2);
    }

    private static void fault(String text, int kind, int place) {
        RopeRace x = new RopeRace();
        Due.is("statute [" + text + "]", Due.tell(x, text, 0), kind == 0 ? 0 : -1);
        Due.is("fault(0) of [" + text + "]", x.fault(0), kind);
        Due.is("fault(1) of [" + text + "]", x.fault(1), place);
        Due.is("count(6) of [" + text + "]", x.count(6), kind == 0 ? 1 : 0);
    }

    private static void faultsOfOne() {
        fault("jump 1;", 1, 0);
        fault("  ru 2;", 1, 2);
        fault("runs 2;", 1, 0);
        fault("sun 2;", 1, 0);
        fault("runz 2;", 1, 0);
        fault("runa 2;", 1, 0);
        fault(" ".repeat(597) + "run", 1, 600);
        fault(" ".repeat(598) + "ru", 1, 598);
        fault("runlaps 2;", 1, 0);
        fault("Run 2;", 1, 0);
        fault("runX 2;", 1, 3);
        fault("2;", 1, 0);
        fault(";", 1, 0);
        fault("run", 1, 3);
        fault("run \n ", 1, 6);
        fault("run ;", 1, 4);
        fault("run laps;", 1, 4);
        fault("run -2;", 1, 4);
        fault("run 2", 1, 5);
        fault("run 2  ", 1, 7);
        fault("run 2 3;", 1, 6);
        fault("run 2x;", 1, 5);
        fault("run 2.;", 1, 5);
        fault("run 2;;", 1, 6);
        fault("run 2; laps 1; run", 1, 18);
        fault("run 2; run;", 1, 10);
        fault("run\t2;", 1, 3);
        fault("run 2;\r", 1, 6);
        fault("run 2;\0", 1, 6);
    }

    private static void faultsOfTwo() {
        String[] words = {"run", "laps", "bend", "loose", "bar", "apart", "false"};
        int[] least = {2, 1, 1, 0, 0, 0, 0};
        int[] most = {10, 5, 9, 1, 9, 9, 9};
        for (int i = 0; i < words.length; i++) {
            fault(words[i] + " " + least[i] + ";", 0, -1);
            fault(words[i] + " " + most[i] + ";", 0, -1);
            fault(words[i] + " " + (most[i] + 1) + ";", 2, words[i].length() + 1);
            if (least[i] > 0) {
                fault(words[i] + " " + (least[i] - 1) + ";", 2, words[i].length() + 1);
            }
        }
        fault("run 4294967298;", 2, 4);
        fault("run 99999999999999999999999999999999999999999999999999;", 2, 4);
        fault("run 11", 2, 4);
        fault("run 2; run 11;", 2, 11);
    }

    private static void faultsOfThree() {
        fault("run 2; run 2;", 3, 7);
        fault("run 2; run 2", 3, 7);
        fault("run 2; run 2 jump", 3, 7);
        fault("bar 0; bar 0;", 3, 7);
        fault("false 0;apart 0;false 1;;", 3, 16);
    }

    private static void faultStays() {
        RopeRace x = new RopeRace();
        Due.tell(x, "run 2; laps 6;", 0);
        Due.is("refused", x.statute(0, 100), -2);
        Due.is("fault(0) behind -2", x.fault(0), 2);
        Due.is("fault(1) behind -2", x.fault(1), 12);
        Due.is("fault(2)", x.fault(2), -1);
        Due.is("fault(-1)", x.fault(-1), -1);
        Due.is("a text with a fault says nothing", x.law(0, 0), 3);
        Due.tell(x, "run 4;", 0);
        Due.is("fault(0) of a good one", x.fault(0), 0);
        Due.is("fault(1) of a good one", x.fault(1), -1);
    }

    private static void goodTexts() {
        fault("", 0, -1);
        fault(" \n ", 0, -1);
        fault("run2;laps3;bend4;loose1;bar5;apart6;false7;", 0, -1);
        fault("run\n 2 \n; laps 0001 ;", 0, -1);
        RopeRace x = new RopeRace();
        Due.tell(x, "false7;apart6;bar5;loose1;bend4;laps3;run00000000000000000000010;", 0);
        int[] said = {10, 3, 4, 1, 5, 6, 7};
        for (int what = 0; what < said.length; what++) {
            Due.is("law(" + what + ", 0)", x.law(what, 0), said[what]);
        }
    }

    private static void lawByYears() {
        RopeRace x = new RopeRace();
        Due.tell(x, "run 5; bar 1;", 10);
        Due.tell(x, "run 6;", 20);
        Due.tell(x, "run 7; apart 2;", 10);
        Due.tell(x, "bar 3;", 5);
        Due.is("run of 9", x.law(0, 9), 3);
        Due.is("run of 10: told last", x.law(0, 10), 7);
        Due.is("run of 19", x.law(0, 19), 7);
        Due.is("run of 20", x.law(0, 20), 6);
        Due.is("run of 99", x.law(0, 99), 6);
        Due.is("bar of 4", x.law(4, 4), 0);
        Due.is("bar of 5", x.law(4, 5), 3);
        Due.is("bar of 10: the later year", x.law(4, 10), 1);
        Due.is("bar of 20: a text without it says nothing", x.law(4, 20), 1);
        Due.is("apart of 20", x.law(5, 20), 2);
    }

    private static void lawBounds() {
        RopeRace x = new RopeRace();
        int[] untold = {3, 1, 9, 0, 0, 0, 0};
        for (int what = 0; what < untold.length; what++) {
            Due.is("untold law(" + what + ", 99)", x.law(what, 99), untold[what]);
        }
        Due.is("law(-1, 0)", x.law(-1, 0), -1);
        Due.is("law(7, 0)", x.law(7, 0), -1);
        Due.is("law(0, -1)", x.law(0, -1), -1);
        Due.is("law(0, 100)", x.law(0, 100), -1);
    }
}
