/** Promises 1 to 5: a new object, feed, statute, fault, law. */
public final class StatuteTest {
    public static void main(String[] args) {
        feedBytes();
        goodTexts();
        lawByYears();
        Due.end();
    }

    private static void feedBytes() {
        RopeRace x = new RopeRace();
        Due.is("feed run 2;", x.feed(0x72756e20, 0x323b2020, 0x20202020, 0x20202020, 0x200a0a20), 20);
        Due.is("feed laps 5;", x.feed(0x6c617073, 0x20353b20, 0x20202020, 0x20202020, 0x20202020), 40);
        Due.is("both feeds are one text", x.statute(40, 0), 0);
        Due.is("its run", x.law(0, 0), 2);
        Due.is("its laps", x.law(1, 0), 5);
        x.feed(0x20202020, 0x20202020, 0x20202020, 0x20202020, 0x202020f2);
        Due.is("a high byte is no letter", x.statute(20, 0), -1);
        Due.is("its place is the last one", x.fault(1), 19);
    }

    private static void goodTexts() {
        String[] texts = {"run2;laps3;bend4;loose1;bar5;apart6;false7;", "run\n 2 \n; laps 0001 ;"};
        for (String text : texts) {
            RopeRace x = new RopeRace();
            Due.is("statute [" + text + "]", Due.tell(x, text, 0), 0);
            Due.is("fault(0) of [" + text + "]", x.fault(0), 0);
        }
        RopeRace x = new RopeRace();
        Due.tell(x, "false7;apart6;bar5;loose1;bend4;laps3;run00000000000000000000010;", 0);
        int[] said = {10, 3, 4, 1, 5, 6, 7};
        for (int what = 0; what < said.length; what++) {
            Due.is("law(" + what + ", 0)", x.law(what, 0), said[what]);
        }
    }

    private static void lawByYears() {
        RopeRace x = new RopeRace();
        Due.tell(x, "run 5; bar 1;", 10);
        Due.tell(x, "run 6;", 20);
        Due.tell(x, "run 7; apart 2;", 10);
        Due.tell(x, "bar 3;", 5);
        Due.is("run of 9", x.law(0, 9), 3);
        Due.is("run of 10: told last", x.law(0, 10), 7);
        Due.is("run of 19", x.law(0, 19), 7);
        Due.is("run of 20", x.law(0, 20), 6);
        Due.is("run of 99", x.law(0, 99), 6);
        Due.is("bar of 4", x.law(4, 4), 0);
        Due.is("bar of 5", x.law(4, 5), 3);
        Due.is("bar of 10: the later year", x.law(4, 10), 1);
        Due.is("bar of 20: a text without it says nothing", x.law(4, 20), 1);
        Due.is("apart of 20", x.law(5, 20), 2);
    }
}
