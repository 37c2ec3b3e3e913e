/** Edges of promises 23 to 29: at, seems, stands, together, again, meets, reads. */
public final class EdgeSightTest {
    private static final Edges edges = new Edges("EdgeSightTest");
    private static final int NONE = Edges.NONE;
    private static final int HIDDEN = Edges.HIDDEN;
    private static final int BLANK = Edges.BLANK;
    private static final int[] NO_WHEELS = {-1, 4, Edges.LEAST, Edges.MOST};
    private static final String SIXTEEN = "abcdefghijklmnop";

    public static void main(String[] args) {
        edges.run(EdgeSightTest.class);
    }

    private static SlitDrum by(String law, String lantern, String... strips) {
        SlitDrum drum = Checks.drum(lantern, strips);
        int told = Checks.tell(drum, Checks.LAW, law);
        edges.same("text(1) of " + law, told, 0);
        drum.law(told);
        return drum;
    }

    private static SlitDrum atTheLastTick(String lantern, String... strips) {
        SlitDrum drum = Checks.drum("so0f50;" + lantern, strips);
        for (int left = 9999; left > 0; left -= 60) {
            drum.ticks(Math.min(60, left));
        }
        return drum;
    }

    // ---- 23: at

    private static void p23_noSuchWheel() {
        for (int wheel : NO_WHEELS) {
            edges.refused("at(" + wheel + ", 0)", drum -> drum.at(wheel, 0), NONE, Edges.NO_STATUS);
        }
        edges.same("of two", Checks.drum("w;w", "ab").at(2, 0), NONE);
        edges.same("no lantern", new SlitDrum().at(0, 0), NONE);
    }

    private static void p23_outOfBounds() {
        for (int i : new int[] {-1, 100, Edges.LEAST, Edges.MOST}) {
            edges.refused("at(0, " + i + ")", drum -> drum.at(0, i), NONE, Edges.NO_STATUS);
        }
    }

    private static void p23_flashZeroIsNow() {
        SlitDrum drum = Checks.drum("sf4;wv1p2", "abcdefg");
        edges.same("at(0, 0)", drum.at(0, 0), 2);
        drum.ticks(1);
        edges.same("at(0, 0), not at a whole flash", drum.at(0, 0), 3);
        edges.same("at(0, 1)", drum.at(0, 1), 0);
    }

    private static void p23_flashNinetyNine() {
        SlitDrum drum = Checks.drum("sf60;wv1;wv1b1", "abcdefg");
        edges.same("at(0, 99)", drum.at(0, 99), 99 * 60 % 7);
        edges.same("at(1, 99)", drum.at(1, 99), Math.floorMod(-99 * 60, 7));
        drum.flash(1);
        edges.same("at(0, 99) of 1", drum.at(0, 99), 99 % 7);
    }

    private static void p23_oilDoesNotMatter() {
        edges.same("at(0, 1)", Checks.drum("sf3o0;wv1", "abcdefg").at(0, 1), 3);
        edges.same("at(0, 5)", Checks.drum("sf3o4;wv1", "abcdefg").at(0, 5), 1);
    }

    private static void p23_ticksGoOnBehindTheLast() {
        SlitDrum drum = atTheLastTick("wv1", "abcdefg");
        edges.same("at(0, 1) by 50", drum.at(0, 1), 1);
        drum.law(Checks.tell(drum, Checks.LAW, "y:t=15?3"));
        edges.same("at(0, 1): 9,999, 10,023 and 10,047 are 15 of 24", drum.at(0, 1), 9 % 7);
    }

    private static void p23_aBareWheelIsBlank() {
        edges.same("at(0, 99)", Checks.drum("wv3r5", "ab").at(0, 99), BLANK);
    }

    private static void p23_byTheLawThatHoldsRoundTheDay() {
        SlitDrum drum = by("y:t=23?1", "sf1;w", SIXTEEN);
        edges.same("at(0, 23)", drum.at(0, 23), 0);
        edges.same("at(0, 24)", drum.at(0, 24), 1);
        edges.same("at(0, 47)", drum.at(0, 47), 1);
        edges.same("at(0, 48)", drum.at(0, 48), 2);
        drum.ticks(23);
        edges.same("at(0, 1) from tick 23", drum.at(0, 1), 1);
    }

    // ---- 24: seems

    private static void p24_noSuchWheel() {
        for (int wheel : NO_WHEELS) {
            edges.refused("seems(" + wheel + ", 1)", drum -> drum.seems(wheel, 1), HIDDEN, Edges.NO_STATUS);
        }
        edges.same("of two", Checks.drum("w;w", "ab").seems(2, 1), HIDDEN);
        edges.same("no lantern", new SlitDrum().seems(0, 1), HIDDEN);
    }

    private static void p24_outOfBounds() {
        for (int f : new int[] {0, 61, -1, Edges.LEAST, Edges.MOST}) {
            edges.refused("seems(0, " + f + ")", drum -> drum.seems(0, f), HIDDEN, Edges.NO_STATUS);
        }
    }

    private static void p24_oneAndSixty() {
        SlitDrum drum = Checks.drum("wv1", "abcdefg");
        edges.same("seems(0, 1)", drum.seems(0, 1), 1);
        edges.same("seems(0, 60)", drum.seems(0, 60), -3);
    }

    private static void p24_halfOfLongIsAboveZero() {
        SlitDrum drum = Checks.drum("wv1;wv1b1;wv1p5;wv1r1", "abcdef", "ab");
        edges.same("3 of 6", drum.seems(0, 3), 3);
        edges.same("0 less 3 of 6", drum.seems(1, 3), 3);
        edges.same("from 5, by 3 of 6", drum.seems(2, 3), 3);
        edges.same("1 of 2", drum.seems(3, 1), 1);
    }

    private static void p24_oneMoreThanHalfIsBackward() {
        SlitDrum drum = Checks.drum("wv1;wv1r1;wv1b1r1", "abcdef", "abcdefg");
        edges.same("4 of 6", drum.seems(0, 4), -2);
        edges.same("2 of 6", drum.seems(0, 2), 2);
        edges.same("3 of 7", drum.seems(1, 3), 3);
        edges.same("4 of 7", drum.seems(1, 4), -3);
        edges.same("0 less 3 of 7", drum.seems(2, 3), -3);
        edges.same("0 less 4 of 7", drum.seems(2, 4), 3);
    }

    private static void p24_onceRoundIsZero() {
        SlitDrum drum = Checks.drum("wv1p3;wv0;wr5", "abcdef");
        edges.same("6 of 6", drum.seems(0, 6), 0);
        edges.same("speed 0", drum.seems(1, 5), 0);
        edges.same("a bare one", drum.seems(2, 5), 0);
    }

    private static void p24_fOfALawIsTheFlashThatIs() {
        SlitDrum drum = by("y:f", "sf2;w", SIXTEEN);
        edges.same("seems(0, 1)", drum.seems(0, 1), 2);
        edges.same("seems(0, 3)", drum.seems(0, 3), 6);
    }

    private static void p24_oilAndTheLastTickDoNotMatter() {
        edges.same("no oil", Checks.drum("so0;wv1", "abcdefg").seems(0, 2), 2);
        edges.same("at 9,999", atTheLastTick("wv1", "abcdefg").seems(0, 2), 2);
    }

    // ---- 25: stands

    private static void p25_noSuchWheel() {
        for (int wheel : NO_WHEELS) {
            edges.refused("stands(" + wheel + ", -1)", drum -> drum.stands(wheel, NONE), NONE, Edges.NO_STATUS);
        }
        edges.same("no lantern", new SlitDrum().stands(0, NONE), NONE);
    }

    private static void p25_noSuchOne() {
        SlitDrum drum = Checks.drum("wv1;wv1r1", "abcdefg", "abcdefghijklmno");
        edges.same("how many of 7", drum.stands(0, NONE), 8);
        edges.same("the last", drum.stands(0, 7), 56);
        for (int i : new int[] {8, -2, 60, Edges.LEAST, Edges.MOST}) {
            edges.same("stands(0, " + i + ")", drum.stands(0, i), NONE);
        }
        edges.same("how many of 15", drum.stands(1, NONE), 4);
        edges.same("60 is the last", drum.stands(1, 3), 60);
        edges.same("stands(1, 4)", drum.stands(1, 4), NONE);
    }

    private static void p25_byAllFromOneToSixty() {
        SlitDrum drum = Checks.drum("wv0;wr5;wv4r1", "abc", "abcd");
        for (int w = 0; w < 3; w++) {
            edges.same("how many", drum.stands(w, NONE), 60);
            edges.same("the first", drum.stands(w, 0), 1);
            edges.same("the last", drum.stands(w, 59), 60);
            edges.same("no more", drum.stands(w, 60), NONE);
        }
    }

    private static void p25_byNone() {
        SlitDrum drum = by("y:p=0?1", "w", "abc");
        edges.same("how many", drum.stands(0, NONE), 0);
        edges.same("stands(0, 0)", drum.stands(0, 0), NONE);
    }

    /** A wheel that is away at one tick of each day alone; the flashes that none of six of them hits. */
    private static void awayAt(int hour) {
        SlitDrum drum = by("y:t=" + (hour - 1) + "?1;y:t=" + hour + "?2", "w", "abc");
        int found = 0;
        for (int f = 1; f <= 60; f++) {
            boolean hit = false;
            for (int k = 1; k <= 6; k++) {
                hit |= k * f % 24 == hour;
            }
            if (!hit) {
                edges.same("stands(0, " + found + ") away at " + hour, drum.stands(0, found), f);
                found++;
            }
        }
        edges.same("how many away at " + hour, drum.stands(0, NONE), found);
    }

    private static void p25_theSixthFlashCounts() {
        awayAt(6);
        awayAt(1);
    }

    private static void p25_theSeventhFlashDoesNot() {
        awayAt(7);
        awayAt(23);
    }

    private static void p25_fOfALawIsTheFlashThatIs() {
        SlitDrum drum = by("y:f", "sf2;w;wr1", SIXTEEN, "abc");
        edges.same("by 2 of 16", drum.stands(0, 0), 8);
        edges.same("how many", drum.stands(0, NONE), 7);
        edges.same("together()", drum.together(), 24);
    }

    private static void p25_placesCountNotPictures() {
        SlitDrum drum = Checks.drum("wv1", "aaaa");
        edges.same("how many", drum.stands(0, NONE), 15);
        edges.same("the first", drum.stands(0, 0), 4);
    }

    private static void p25_oilAndTheLastTickDoNotMatter() {
        edges.same("no oil", Checks.drum("so0;wv1", "abcdefg").stands(0, 0), 7);
        edges.same("at 9,999", atTheLastTick("wv1", "abcdefg").stands(0, 0), 7);
    }

    // ---- 26: together

    private static void p26_noLantern() {
        edges.same("together()", new SlitDrum().together(), NONE);
    }

    private static void p26_byNone() {
        edges.same("7 and 9", Checks.drum("w;wr1", "abcdefg", "abcdefghi").together(), NONE);
        edges.same("one that stands by none", by("y:p=0&l=3?1", "w;wr1", "abc", "ab").together(), NONE);
        edges.same("5, 9 and 4", Checks.drum("w;wr1;wr2", "abcde", "abcdefghi", "abcd").together(), NONE);
    }

    private static void p26_bySixtyAtMost() {
        edges.same("15 and 4", Checks.drum("w;wr1", "abcdefghijklmno", "abcd").together(), 60);
        edges.same("5, 3 and 4", Checks.drum("w;wr1;wr2", "abcde", "abc", "abcd").together(), 60);
        edges.same("6 and 11", Checks.drum("w;wr1", "abcdef", "abcdefghijk").together(), NONE);
        edges.same("8 and 7", Checks.drum("w;wr1", "abcdefgh", "abcdefg").together(), 56);
    }

    /**
     * Wheel 0 is at its place at hours 2, 4, 6, 13, 15 and 17 of a day alone: of 61 flashes it stands by 13, 37
     * and 61. Wheel 1 goes by one of five a day, and by three more from hour 9 to 20: of these it stands by 61.
     */
    private static void p26_notBySixtyOne() {
        SlitDrum drum = by("y:l=5&(t=8|t=20)?3;y:l=2&(t=0&p=0|t>0&t<7|t>11&t<18)?1", "sf1;w;wr1", "ab", "abcde");
        edges.same("how many of wheel 0", drum.stands(0, NONE), 2);
        edges.same("the first", drum.stands(0, 0), 13);
        edges.same("the second", drum.stands(0, 1), 37);
        edges.same("together()", drum.together(), NONE);
        for (int k = 1; k <= 6; k++) {
            drum.flash(k);
            edges.same("wheel 0 behind " + k + " times 61", drum.at(0, 61), 0);
            edges.same("wheel 1 behind " + k + " times 61", drum.at(1, 61), 0);
        }
    }

    private static void p26_byOne() {
        edges.same("still ones", Checks.drum("wv0;wr5;wv3", "abc").together(), 1);
    }

    private static void p26_allWheelsStand() {
        edges.same("four", Checks.drum("wv0;wv0;wv0;wv1", "abcde").together(), 5);
        edges.same("four", Checks.drum("wv1;wv0;wv0;wv0", "abcde").together(), 5);
    }

    // ---- 27: again

    private static void p27_noSuchWheel() {
        for (int wheel : new int[] {-2, 4, Edges.LEAST, Edges.MOST}) {
            edges.refused("again(" + wheel + ")", drum -> drum.again(wheel), NONE, Edges.NO_STATUS);
        }
        edges.same("of two", Checks.drum("w;w", "ab").again(2), NONE);
    }

    private static void p27_noLantern() {
        edges.same("again(0)", new SlitDrum().again(0), NONE);
        edges.same("again(-1)", new SlitDrum().again(NONE), NONE);
    }

    private static void p27_oneTickAtLeast() {
        SlitDrum drum = Checks.drum("wv0;wr5;wv6", "abc");
        for (int wheel = -1; wheel < 3; wheel++) {
            edges.same("again(" + wheel + ")", drum.again(wheel), 1);
        }
    }

    private static void p27_eachWheelByItself() {
        SlitDrum drum = Checks.drum("wr1;w;wr2;wr1", "abcde", "abc", "abcdefg");
        int[] due = {3, 5, 7, 3};
        for (int wheel = 0; wheel < due.length; wheel++) {
            edges.same("again(" + wheel + ")", drum.again(wheel), due[wheel]);
        }
        edges.same("of all", drum.again(NONE), 105);
    }

    private static void p27_neverHomeBehindAllPlacesAndHours() {
        SlitDrum drum = by("y:t=23&p<15?1", "sf60;w;wp15;wp14", SIXTEEN);
        edges.same("still at 0 for a day", drum.again(0), 1);
        edges.same("at 15 for good", drum.at(0, 99), 15);
        edges.same("by 420 ticks", drum.at(0, 7), 15);
        edges.same("by 360 ticks", drum.at(0, 6), 15);
        edges.same("by 300 ticks", drum.at(0, 5), 12);
        SlitDrum next = by("y:t=0&p<15?1", "w", SIXTEEN);
        edges.same("never", next.again(0), NONE);
    }

    private static void p27_notWithinThese() {
        SlitDrum drum = by("y:p=0?1", "w;wr1;wv0p1", "abc", "a");
        edges.same("never", drum.again(0), NONE);
        edges.same("one picture", drum.again(1), 1);
        edges.same("still", drum.again(2), 1);
        edges.same("not all", drum.again(NONE), NONE);
    }

    private static void p27_lateByALaw() {
        SlitDrum drum = by("y:t=0?1", "w", SIXTEEN);
        edges.same("fifteen days and a tick", drum.again(0), 361);
        edges.same("of all", drum.again(NONE), 361);
    }

    /** Four wheels that are home at once behind 9,984 ticks and that hour more, and never ahead of it. */
    private static SlitDrum homeAt(int hour) {
        return by("y:l=11&t=0?2;y:l=11&t=H?0-1;y:l>11&t=H?1;y:l=2&(p=0&(t=0|t=H)|p=1&t=B)?1"
                .replace("H", "" + hour).replace("B", "" + (hour - 1)),
                "w;wr1;wr2;wr3", SIXTEEN, "abcdefghijklm", "abcdefghijk", "ab");
    }

    private static void p27_ofAllBehind9999AtMost() {
        edges.same("again(-1) at 9,999", homeAt(15).again(NONE), 9999);
        edges.same("again(-1) at 10,000", homeAt(16).again(NONE), NONE);
    }

    private static void p27_ofAllBehind999Too() {
        edges.same("13, 11 and 7", Checks.drum("w;wr1;wr2", "abcdefghijklm", "abcdefghijk", "abcdefg").again(NONE), 1001);
        edges.same("10,010", Checks.drum("w;wr1;wr2;wr3", "abcdefghijklm", "abcdefghijk", "abcdefghijklmn",
                "abcdefghij").again(NONE), NONE);
    }

    private static void p27_placesCountNotPictures() {
        edges.same("again(0)", Checks.drum("w", "aaaa").again(0), 4);
    }

    private static void p27_oilAndTheLastTickDoNotMatter() {
        edges.same("no oil", Checks.drum("so0;wv1", "abcdefg").again(0), 7);
        edges.same("at 9,999", atTheLastTick("wv1", "abcdefg").again(0), 7);
    }

    // ---- 28: meets

    private static void p28_noSuchWheels() {
        for (int wheel : NO_WHEELS) {
            edges.refused("meets(" + wheel + ", 0)", drum -> drum.meets(wheel, 0), NONE, Edges.NO_STATUS);
            edges.refused("meets(0, " + wheel + ")", drum -> drum.meets(0, wheel), NONE, Edges.NO_STATUS);
        }
        edges.same("no lantern", new SlitDrum().meets(0, 1), NONE);
    }

    private static void p28_alike() {
        for (int wheel = 0; wheel < 4; wheel++) {
            edges.same("meets of one", Checks.drum("w;w;w;w", "ab").meets(wheel, wheel), NONE);
        }
    }

    private static void p28_now() {
        edges.same("meets(0, 1)", Checks.drum("w;w", "ab").meets(0, 1), 0);
        edges.same("meets(3, 0)", Checks.drum("w;wp1;wp1;w", "ab").meets(3, 0), 0);
    }

    private static void p28_blankOnesDoNot() {
        edges.same("blank ones", Checks.drum("w;w", ".").meets(0, 1), NONE);
        edges.same("bare ones", Checks.drum("wr4;wr5").meets(0, 1), NONE);
        edges.same("behind the blank ones", Checks.drum("w;w", "..z").meets(0, 1), 2);
    }

    /** Two wheels that go on by one picture a day, at that hour, and show a at once behind 42 days alone. */
    private static SlitDrum once(int hour) {
        return by("y:t=" + hour + "?1", "w;wr1", "...a.........", ".........a.", "a", "aaa");
    }

    private static void p28_behind999AtMost() {
        edges.same("at 999", once(14).meets(0, 1), 999);
        edges.same("at 1,000", once(15).meets(0, 1), NONE);
    }

    private static void p28_notWithinThese() {
        edges.same("other pictures", Checks.drum("w;wr1", "ab", "cd").meets(0, 1), NONE);
        edges.same("never at once", Checks.drum("w;wp1", "ab").meets(0, 1), NONE);
    }

    private static void p28_oilAndTheLastTickDoNotMatter() {
        edges.same("no oil", Checks.drum("so0;wv1;wv0p3", "abcdefg").meets(0, 1), 3);
        edges.same("at 9,999", atTheLastTick("wv1;wv0p3", "abcdefg").meets(0, 1), 3);
    }

    // ---- 29: reads

    private static void p29_noSuchStrip() {
        for (int strip : new int[] {-1, 3, 6, Edges.LEAST, Edges.MOST}) {
            edges.refused("reads(" + strip + ")", drum -> drum.reads(strip), NONE, Edges.NO_STATUS);
        }
    }

    private static void p29_noLantern() {
        SlitDrum drum = new SlitDrum();
        Checks.tell(drum, Checks.STRIP, "a");
        edges.same("reads(0)", drum.reads(0), NONE);
    }

    private static void p29_now() {
        edges.same("reads(0)", Checks.drum("w;wp1", "ab").reads(0), 0);
    }

    private static void p29_behindTheLastTheFirstAgain() {
        SlitDrum drum = Checks.drum("w;wp1;w;wp1", "ab", "ba", "aba", "abab");
        edges.same("ab, four times round", drum.reads(0), 0);
        edges.same("ba", drum.reads(1), 1);
        edges.same("abaa is not abab", drum.reads(2), NONE);
        edges.same("abab", drum.reads(3), 0);
    }

    private static void p29_moreThanThereAreWheels() {
        SlitDrum drum = Checks.drum("w;wp1", "abc", "bcxyz");
        edges.same("its first two", drum.reads(1), 1);
    }

    private static void p29_allWheels() {
        for (String lantern : "wp1;w;w;w w;wp1;w;w w;w;wp1;w w;w;w;wp1".split(" ")) {
            edges.same(lantern, Checks.drum(lantern, "ab", "a").reads(1), NONE);
        }
    }

    private static void p29_blankOnesDo() {
        edges.same("blank and a", Checks.drum("w;wp1", ".a").reads(0), 0);
        edges.same("bare ones", Checks.drum("wr4;wr5", ".").reads(0), 0);
    }

    private static void p29_behind999AtMost() {
        edges.same("at 999", once(14).reads(2), 999);
        edges.same("at 999", once(14).reads(3), 999);
        edges.same("at 1,000", once(15).reads(2), NONE);
    }

    private static void p29_oilAndTheLastTickDoNotMatter() {
        edges.same("no oil", Checks.drum("so0;wv1", "abcdefg", "d").reads(1), 3);
        edges.same("at 9,999", atTheLastTick("wv1", "abcdefg", "d").reads(1), 3);
    }
}
