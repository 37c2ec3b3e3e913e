/** Edges of promises 36 to 43: noted, fits, ask, game, rests, odds, shares, most. */
public final class EdgeFindTest {
    private static final Edges edges = new Edges("EdgeFindTest");
    private static final int NONE = Edges.NONE;
    private static final int HIDDEN = Edges.HIDDEN;
    private static final int BLANK = Edges.BLANK;
    private static final int WHOLE = 1000000000;
    private static final int[] NO_WHEELS = {-1, 4, Edges.LEAST, Edges.MOST};
    private static final String SIXTEEN = "abcdefghijklmnop";

    public static void main(String[] args) {
        edges.run(EdgeFindTest.class);
    }

    private static SlitDrum with(String... strips) {
        SlitDrum drum = new SlitDrum();
        for (String strip : strips) {
            Checks.tell(drum, Checks.STRIP, strip);
        }
        return drum;
    }

    private static SlitDrum by(String law, String lantern, String... strips) {
        SlitDrum drum = Checks.drum(lantern, strips);
        drum.law(Checks.tell(drum, Checks.LAW, law));
        return drum;
    }

    private static SlitDrum atTheLastTick(String lantern, String... strips) {
        SlitDrum drum = Checks.drum("so0f50;" + lantern, strips);
        for (int left = 9999; left > 0; left -= 60) {
            drum.ticks(Math.min(60, left));
        }
        return drum;
    }

    // ---- 36: noted

    private static void p36_tickOutOfBounds() {
        for (int tick : new int[] {-1, 100, Edges.LEAST, Edges.MOST}) {
            edges.refused("noted(" + tick + ", 0)", drum -> drum.noted(tick, 0, true), NONE, Edges.NO_STATUS);
        }
    }

    private static void p36_pictureOutOfBounds() {
        for (int picture : new int[] {-1, 27, Edges.LEAST, Edges.MOST}) {
            edges.refused("noted(0, " + picture + ")", drum -> drum.noted(0, picture, false), NONE, Edges.NO_STATUS);
        }
    }

    private static void p36_theLeastAndTheMost() {
        SlitDrum drum = new SlitDrum();
        edges.same("noted(0, 0)", drum.noted(0, 0, true), 1);
        edges.same("noted(99, 26)", drum.noted(99, 26, false), 2);
    }

    private static SlitDrum withTen() {
        SlitDrum drum = Edges.rich();
        for (int i = 2; i <= 10; i++) {
            edges.same("noted", drum.noted(i, 25, false), i);
        }
        return drum;
    }

    private static void p36_thereAreTen() {
        edges.refused("an eleventh", EdgeFindTest::withTen, drum -> drum.noted(0, 0, true), NONE, Edges.NO_STATUS);
        edges.same("count(7)", withTen().count(7), 10);
    }

    private static void p36_withoutALantern() {
        SlitDrum drum = new SlitDrum();
        edges.same("noted(1, 2)", drum.noted(1, 2, true), 1);
        edges.same("count(7)", drum.count(7), 1);
        edges.same("no act", drum.count(9), 0);
    }

    private static void p36_goneByAnotherLantern() {
        SlitDrum drum = withTen();
        Checks.tell(drum, Checks.LANTERN, "w");
        edges.same("count(7)", drum.count(7), 0);
        edges.same("noted(1, 2)", drum.noted(1, 2, true), 1);
    }

    // ---- 37: fits

    private static void p37_noStrips() {
        SlitDrum drum = new SlitDrum();
        edges.same("how many", drum.fits(NONE), 0);
        edges.same("fits(0)", drum.fits(0), NONE);
    }

    private static void p37_noSuchOne() {
        SlitDrum drum = with("ab");
        edges.same("how many", drum.fits(NONE), 20);
        edges.same("the last", drum.fits(19), 901);
        for (int i : new int[] {20, -2, Edges.LEAST, Edges.MOST}) {
            edges.same("fits(" + i + ")", drum.fits(i), NONE);
        }
    }

    private static void p37_allOfSixStripsOfSixteen() {
        SlitDrum drum = with(SIXTEEN, SIXTEEN, SIXTEEN, SIXTEEN, SIXTEEN, SIXTEEN);
        edges.same("how many", drum.fits(NONE), 960);
        edges.same("the first", drum.fits(0), 0);
        edges.same("the last place", drum.fits(15), 15);
        edges.same("the next speed", drum.fits(16), 100);
        edges.same("the last of a strip", drum.fits(159), 915);
        edges.same("the next strip", drum.fits(160), 1000);
        edges.same("the last", drum.fits(959), 5915);
        edges.same("no more", drum.fits(960), NONE);
    }

    private static void p37_placesBelowLong() {
        SlitDrum drum = with("a", "bcd");
        edges.same("how many", drum.fits(NONE), 40);
        edges.same("fits(9)", drum.fits(9), 900);
        edges.same("fits(12)", drum.fits(12), 1002);
        edges.same("fits(13)", drum.fits(13), 1100);
    }

    private static void p37_nothingFits() {
        SlitDrum drum = with("ab");
        drum.noted(0, 2, true);
        edges.same("how many", drum.fits(NONE), 0);
        edges.same("fits(0)", drum.fits(0), NONE);
    }

    private static void p37_showedAndDidNot() {
        SlitDrum drum = with("ab");
        drum.noted(0, 0, true);
        edges.same("place 0", drum.fits(NONE), 10);
        drum.noted(1, 0, false);
        edges.same("odd speeds", drum.fits(NONE), 5);
        edges.same("the first", drum.fits(0), 100);
        edges.same("the last", drum.fits(4), 900);
        drum.noted(1, 0, true);
        edges.same("both cannot be", drum.fits(NONE), 0);
    }

    private static void p37_blankOnesToo() {
        SlitDrum drum = with("a.");
        drum.noted(0, BLANK, true);
        drum.noted(1, BLANK, true);
        edges.same("how many", drum.fits(NONE), 5);
        edges.same("the first", drum.fits(0), 1);
    }

    private static void p37_atTickNinetyNine() {
        SlitDrum drum = with(SIXTEEN);
        drum.noted(99, 5, true);
        edges.same("one of each speed", drum.fits(NONE), 10);
        for (int v = 0; v <= 9; v++) {
            edges.same("speed " + v, drum.fits(v), 100 * v + Math.floorMod(5 - 99 * v, 16));
        }
    }

    private static void p37_allTenAreLookedAt() {
        SlitDrum drum = with(SIXTEEN);
        for (int i = 0; i < 9; i++) {
            drum.noted(0, i, false);
        }
        edges.same("nine", drum.fits(NONE), 70);
        drum.noted(0, 9, false);
        edges.same("ten", drum.fits(NONE), 60);
        drum.noted(0, 10, false);
        edges.same("the eleventh was refused", drum.fits(NONE), 60);
    }

    private static void p37_lawsAndTheLanternDoNotMatter() {
        SlitDrum drum = by("y:5", "wv3b1p1", "abc");
        drum.ticks(5);
        drum.noted(1, 1, true);
        edges.same("how many", drum.fits(NONE), 10);
        edges.same("speed 0", drum.fits(0), 1);
        edges.same("speed 1", drum.fits(1), 100);
        edges.same("speed 2", drum.fits(2), 202);
    }

    private static void p37_aStripToldLaterIsLookedAtToo() {
        SlitDrum drum = with("ab");
        drum.noted(0, 0, true);
        edges.same("of one strip", drum.fits(NONE), 10);
        Checks.tell(drum, Checks.STRIP, "ca");
        edges.same("of two", drum.fits(NONE), 20);
        edges.same("the last", drum.fits(19), 1901);
    }

    // ---- 38: ask

    private static void p38_nothingFits() {
        edges.same("no strips", new SlitDrum().ask(), NONE);
        SlitDrum drum = with("ab");
        drum.noted(0, 2, true);
        edges.same("nothing", drum.ask(), NONE);
    }

    private static void p38_ofSeveralTheLeast() {
        edges.same("no tick tells more", with("a").ask(), 0);
        SlitDrum drum = with("ab");
        edges.same("half and half at all ticks", drum.ask(), 0);
        drum.noted(0, 0, true);
        edges.same("odd ticks", drum.ask(), 1);
    }

    private static void p38_oneThatFits() {
        SlitDrum drum = with("ab", "c");
        drum.noted(0, 0, true);
        for (int v = 0; v < 10; v++) {
            edges.same("those left", drum.ask() != NONE, true);
        }
        SlitDrum one = with(SIXTEEN);
        one.noted(0, 3, true);
        one.noted(1, 7, true);
        edges.same("one is left", one.fits(NONE), 1);
        edges.same("ask()", one.ask(), 0);
    }

    private static void p38_sixtyIsTheLast() {
        SlitDrum drum = with("c.abcc.abc.da.d", "e.ebccecaccdegc", "b.b.caccd.d..ca", "hbbfehabehgabcg.");
        for (int[] note : new int[][] {{27, 0}, {74, 0}, {88, 1}, {41, 1}}) {
            drum.noted(note[0], note[1], false);
        }
        edges.same("60", drum.ask(), 60);
    }

    private static void p38_notBeyondSixty() {
        SlitDrum drum = with("acbacbcabacaca", "bacbccbccbacc", "babbccbcbbb");
        drum.noted(64, 1, true);
        edges.same("140 fit", drum.fits(NONE), 140);
        edges.same("62 at 35, 60 at 61", drum.ask(), 35);
    }

    private static void p38_blankOnesAreAPictureToo() {
        SlitDrum drum = with("a.");
        drum.noted(5, BLANK, true);
        edges.same("ten fit", drum.fits(NONE), 10);
        edges.same("five and five at 0, ten blank ones at 1", drum.ask(), 0);
    }

    private static void p38_zToo() {
        SlitDrum drum = with("aaz", "aa");
        drum.noted(4, 0, true);
        drum.noted(2, 25, true);
        edges.same("six fit", drum.fits(NONE), 6);
        edges.same("six a at 0 and at 1, six z at 2", drum.ask(), 0);
    }

    private static void p38_theFirstThatFitsCounts() {
        SlitDrum drum = with("a...z");
        drum.noted(4, BLANK, true);
        drum.noted(5, 25, true);
        edges.same("six fit", drum.fits(NONE), 6);
        edges.same("the first", drum.fits(0), 104);
        edges.same("six z at 0, four blank ones at 1, 2 and 3", drum.ask(), 1);
    }

    private static void p38_placeZeroOfALaterStrip() {
        SlitDrum drum = with("z", ".a.zz");
        drum.noted(5, BLANK, true);
        drum.noted(4, BLANK, true);
        edges.same("eight fit", drum.fits(NONE), 8);
        edges.same("the first", drum.fits(0), 1000);
        edges.same("ask()", drum.ask(), 1);
    }

    // ---- 39: game

    private static void p39_noSuchWheel() {
        for (int wheel : NO_WHEELS) {
            edges.refused("game(" + wheel + ", 1, 1, 0)", drum -> drum.game(wheel, 1, 1, 0), HIDDEN, Edges.NO_STATUS);
        }
        edges.same("no lantern", new SlitDrum().game(0, 1, 1, 0), HIDDEN);
    }

    private static void p39_xOutOfBounds() {
        for (int x : new int[] {0, 5, -1, Edges.LEAST, Edges.MOST}) {
            edges.refused("game(0, " + x + ", 1, 0)", drum -> drum.game(0, x, 1, 0), HIDDEN, Edges.NO_STATUS);
        }
    }

    private static void p39_yOutOfBounds() {
        for (int y : new int[] {-1, 4, Edges.LEAST, Edges.MOST}) {
            edges.refused("game(0, 1, " + y + ", 1)", drum -> drum.game(0, 1, y, 1), HIDDEN, Edges.NO_STATUS);
        }
    }

    private static void p39_noSuchWhat() {
        for (int what : new int[] {-1, 2, Edges.LEAST, Edges.MOST}) {
            edges.refused("game(0, 1, 1, " + what + ")", drum -> drum.game(0, 1, 1, what), HIDDEN, Edges.NO_STATUS);
        }
    }

    private static void p39_theLeastAndTheMost() {
        SlitDrum drum = Checks.drum("w;w;w;wp1", "abcdefghijklm");
        edges.same("looker 1 0", drum.game(3, 1, 0, 0), 1);
        edges.same("turner 1 0", drum.game(3, 1, 0, 1), 8);
        edges.same("looker 4 3", drum.game(3, 4, 3, 0), 8);
        edges.same("turner 4 3", drum.game(3, 4, 3, 1), 6);
    }

    private static void p39_sixFlashesAreSeen() {
        SlitDrum drum = Checks.drum("w", SIXTEEN);
        edges.same("six of sixteen", drum.game(0, 1, 1, 0), 11);
        edges.same("turner", drum.game(0, 1, 1, 1), 4);
        SlitDrum last = Checks.drum("w;wp15", "5ab9bc");
        edges.same("the fifth one more is b", last.game(0, 1, 1, 0), 3);
        edges.same("from the last, round", last.game(1, 1, 1, 0), 3);
    }

    private static void p39_blankOnesAreNotCounted() {
        SlitDrum drum = Checks.drum("w;wr1;wr5", "a.b.z.", ".");
        edges.same("a, b and z", drum.game(0, 1, 1, 0), 5);
        edges.same("turner", drum.game(0, 1, 1, 1), 7);
        edges.same("none", drum.game(1, 4, 3, 0), -4);
        edges.same("turner", drum.game(1, 4, 3, 1), 12);
        edges.same("a bare one", drum.game(2, 1, 0, 0), -1);
    }

    private static void p39_roundAndUnlike() {
        SlitDrum drum = Checks.drum("wp1", "abcd");
        edges.same("four of four", drum.game(0, 1, 1, 0), 7);
        edges.same("two of four", drum.game(0, 2, 1, 0), 2);
        edges.same("one of four", drum.game(0, 4, 3, 0), -2);
        edges.same("three round", drum.game(0, 1, 3, 0), 7);
    }

    private static void p39_speedWayAndLawDoNotMatter() {
        SlitDrum drum = by("y:0", "wv0b1", "abcdefgh");
        edges.same("looker 1 1", drum.game(0, 1, 1, 0), 11);
        edges.same("forward", by("y:0", "wv0b1", "abcdef9.").game(0, 1, 1, 0), 11);
    }

    // ---- 40: rests

    private static void p40_noSuchWheel() {
        for (int wheel : NO_WHEELS) {
            edges.refused("rests(" + wheel + ", -1)", drum -> drum.rests(wheel, NONE), NONE, Edges.NO_STATUS);
        }
        edges.same("no lantern", new SlitDrum().rests(0, NONE), NONE);
    }

    private static void p40_noSuchOne() {
        SlitDrum drum = Checks.drum("w", "babb.b.ac.dad");
        edges.same("how many", drum.rests(0, NONE), 2);
        edges.same("the first", drum.rests(0, 0), 23);
        edges.same("the last", drum.rests(0, 1), 43);
        for (int i : new int[] {2, -2, Edges.LEAST, Edges.MOST}) {
            edges.same("rests(0, " + i + ")", drum.rests(0, i), NONE);
        }
    }

    private static void p40_none() {
        SlitDrum drum = Checks.drum("w", ".adabca.");
        edges.same("how many", drum.rests(0, NONE), 0);
        edges.same("rests(0, 0)", drum.rests(0, 0), NONE);
    }

    private static void p40_rising() {
        SlitDrum drum = Checks.drum("w", "acaadd.dabdcd");
        int[] due = {12, 13, 32, 33};
        edges.same("how many", drum.rests(0, NONE), due.length);
        for (int i = 0; i < due.length; i++) {
            edges.same("rests(0, " + i + ")", drum.rests(0, i), due[i]);
        }
        edges.same("no more", drum.rests(0, due.length), NONE);
        edges.same("x 1, y 0", Checks.drum("w", SIXTEEN).rests(0, 0), 10);
    }

    private static void p40_xIsFourAtMost() {
        SlitDrum drum = Checks.drum("w", "eceea..cfbb..");
        edges.same("how many", drum.rests(0, NONE), 2);
        edges.same("x 1, y 3", drum.rests(0, 0), 13);
        edges.same("x 3, y 3, none by x 5", drum.rests(0, 1), 33);
    }

    private static void p40_ofABareWheel() {
        SlitDrum drum = Checks.drum("wr5");
        edges.same("how many", drum.rests(0, NONE), 1);
        edges.same("x 1, y 3", drum.rests(0, 0), 13);
        edges.same("no more", drum.rests(0, 1), NONE);
    }

    private static void p40_asMuchIsNotMore() {
        SlitDrum drum = Checks.drum("w", "abc");
        for (int x = 1; x <= 4; x++) {
            edges.same("turner " + x + " 0", drum.game(0, x, 0, 1), 8);
        }
        // By y 3 one picture is seen always: 11 for the turner, and the looker has most by x 1.
        edges.same("how many", drum.rests(0, NONE), 1);
        edges.same("x 1, y 3", drum.rests(0, 0), 13);
        // By y 2 and y 3 the turner has as much at a strip of two (at x 1): 10 by one or two pictures.
        SlitDrum two = Checks.drum("w", "ab");
        edges.same("turner 1 2", two.game(0, 1, 2, 1), 10);
        edges.same("turner 1 3", two.game(0, 1, 3, 1), 10);
        edges.same("looker 1 3 and 2 3", two.game(0, 1, 3, 0) - two.game(0, 2, 3, 0), 3);
        edges.same("how many of two", two.rests(0, NONE), 2);
        edges.same("x 1, y 2", two.rests(0, 0), 12);
        edges.same("x 1, y 3", two.rests(0, 1), 13);
    }

    // ---- 41: odds

    private static void p41_noSuchWheel() {
        for (int wheel : NO_WHEELS) {
            edges.refused("odds(" + wheel + ", 1, 1, 1)", drum -> drum.odds(wheel, 1, 1, 1), NONE, Edges.NO_STATUS);
        }
        edges.same("no lantern", new SlitDrum().odds(0, 1, 1, 1), NONE);
    }

    private static void p41_ticksOutOfBounds() {
        for (int n : new int[] {-1, 9, Edges.LEAST, Edges.MOST}) {
            edges.refused("odds(0, " + n + ", 1, 1)", drum -> drum.odds(0, n, 1, 1), NONE, Edges.NO_STATUS);
        }
    }

    private static void p41_chanceOutOfBounds() {
        for (int chance : new int[] {-1, 101, Edges.LEAST, Edges.MOST}) {
            edges.refused("odds(0, 1, " + chance + ", 1)", drum -> drum.odds(0, 1, chance, 1), NONE, Edges.NO_STATUS);
        }
    }

    private static void p41_pictureOutOfBounds() {
        for (int picture : new int[] {-1, 27, Edges.LEAST, Edges.MOST}) {
            edges.refused("odds(0, 1, 1, " + picture + ")", drum -> drum.odds(0, 1, 1, picture), NONE, Edges.NO_STATUS);
        }
    }

    private static void p41_behindNoTick() {
        SlitDrum drum = Checks.drum("wp1", "abc");
        edges.same("what it shows", drum.odds(0, 0, 50, 1), WHOLE);
        edges.same("what it does not", drum.odds(0, 0, 50, 0), 0);
    }

    private static void p41_chanceZeroAndHundred() {
        SlitDrum drum = Checks.drum("wv1", SIXTEEN);
        edges.same("never slips", drum.odds(0, 8, 0, 8), WHOLE);
        edges.same("never slips", drum.odds(0, 8, 0, 0), 0);
        edges.same("always slips", drum.odds(0, 8, 100, 0), WHOLE);
        edges.same("always slips", drum.odds(0, 8, 100, 8), 0);
    }

    private static void p41_eightTicks() {
        SlitDrum drum = Checks.drum("wv1", SIXTEEN);
        int[] ways = {1, 8, 28, 56, 70, 56, 28, 8, 1};
        for (int moves = 0; moves <= 8; moves++) {
            edges.same("half, " + moves + " moves", drum.odds(0, 8, 50, moves), ways[moves] * (WHOLE / 256));
        }
        edges.same("nine moves", drum.odds(0, 8, 50, 9), 0);
    }

    private static void p41_blankOnes() {
        edges.same("a bare one", Checks.drum("wr5").odds(0, 8, 33, BLANK), WHOLE);
        edges.same("a bare one", Checks.drum("wr5").odds(0, 8, 33, 0), 0);
        edges.same("z", Checks.drum("wv1", "a.z").odds(0, 2, 0, 25), WHOLE);
    }

    private static void p41_slipsAreCut() {
        SlitDrum drum = Checks.drum("wv1", SIXTEEN);
        edges.same("a hundredth of a hundredth ..", drum.odds(0, 4, 1, 0), 10);
        edges.same("0.1 parts are none", drum.odds(0, 5, 1, 0), 0);
        edges.same("5 of ten parts at 50", drum.odds(0, 8, 1, 0), 0);
        edges.same("3 of 100 five times", drum.odds(0, 5, 3, 0), 24);
    }

    private static void p41_eachPartIsCutByItself() {
        SlitDrum drum = Checks.drum("wv1", "ab");
        edges.same("odds(0, 5, 1, 0)", drum.odds(0, 5, 1, 0), 48039608);
        edges.same("odds(0, 5, 1, 1)", drum.odds(0, 5, 1, 1), WHOLE - 48039608);
    }

    private static void p41_oilAndTheLastTickDoNotMatter() {
        edges.same("no oil", Checks.drum("so0;wv1", "abc").odds(0, 1, 25, 1), 750000000);
        edges.same("at 9,999", atTheLastTick("wv1", "abc").odds(0, 1, 25, 1), 750000000);
    }

    private static void p41_aLawGoesOnByTheTicks() {
        SlitDrum drum = by("y:t=23?1;y:t=0?2", "wv9", SIXTEEN);
        drum.ticks(20);
        drum.law(NONE);
        drum.push(0, 1);
        drum.law(0);
        int place = drum.wheel(0, 2);
        edges.same("three ticks: none moves", drum.odds(0, 3, 50, place), WHOLE);
        edges.same("four: one may", drum.odds(0, 4, 50, place + 1), WHOLE / 2);
        edges.same("five: both may", drum.odds(0, 5, 50, place + 3), WHOLE / 4);
    }

    // ---- 42: shares

    private static void p42_noSuchWheel() {
        for (int wheel : NO_WHEELS) {
            edges.refused("shares(" + wheel + ", 1)", drum -> drum.shares(wheel, 1), NONE, Edges.NO_STATUS);
        }
        edges.same("no lantern", new SlitDrum().shares(0, 1), NONE);
    }

    private static void p42_outOfBounds() {
        for (int c : new int[] {-1, 1000, Edges.LEAST, Edges.MOST}) {
            edges.refused("shares(0, " + c + ")", drum -> drum.shares(0, c), NONE, Edges.NO_STATUS);
        }
    }

    private static void p42_theLeastAndTheMost() {
        SlitDrum drum = Checks.drum("wv9;wv9;wv9;wv9", "ab");
        edges.same("shares(3, 0)", drum.shares(3, 0), 0);
        edges.same("shares(3, 999)", drum.shares(3, 999), 249);
        edges.same("one wheel has all", Checks.drum("wv1", "ab").shares(0, 999), 999);
    }

    private static void p42_cut() {
        SlitDrum drum = Checks.drum("wv1;wv2", "ab");
        edges.same("2 of 3", drum.shares(0, 2), 0);
        edges.same("3 of 3", drum.shares(0, 3), 1);
        edges.same("5 of 3, twice", drum.shares(1, 5), 3);
    }

    private static void p42_noSpeedAtAll() {
        SlitDrum drum = Checks.drum("wv0;wv0", "ab");
        edges.same("shares(0, 999)", drum.shares(0, 999), 0);
        edges.same("shares(1, 999)", drum.shares(1, 999), 0);
    }

    private static void p42_turningBackCountsAlike() {
        SlitDrum drum = Checks.drum("wv3b1;wv1", "ab");
        edges.same("shares(0, 8)", drum.shares(0, 8), 6);
        edges.same("shares(1, 8)", drum.shares(1, 8), 2);
    }

    // ---- 43: most

    private static void most(String lantern, int what, int due, String... strips) {
        edges.same("most(" + what + ") of " + lantern, Checks.drum(lantern, strips).most(what), due);
    }

    private static void p43_noLantern() {
        for (int what = 0; what <= 9; what++) {
            SlitDrum drum = with("ab", "c");
            edges.same("most(" + what + ")", drum.most(what), NONE);
        }
    }

    private static void p43_noSuchWhat() {
        for (int what : new int[] {-1, 10, Edges.LEAST, Edges.MOST}) {
            edges.refused("most(" + what + ")", drum -> drum.most(what), NONE, Edges.NO_STATUS);
        }
    }

    private static void p43_fastestOfSeveralTheLowest() {
        most("wv0;wv0;wv0;wv0", 0, 0);
        most("wv1;wv5;wv5;wv2", 0, 1);
        most("wv1;wv5;wv2;wv6", 0, 3);
        most("wv8;wv9b1", 0, 1);
        most("wv9b1;wv8", 0, 0);
        most("w", 0, 0);
    }

    private static void p43_longestOfSeveralTheLowest() {
        most("wr5;w;wr5", 1, 0, "a");
        most("wr5;w;w", 1, 1, "ab");
        most("w;wr1;wr1;wr2", 1, 3, "ab", "abc", "abcd");
        most("w;wr1;wr1", 1, 1, "ab", "abc");
        most("wr5;wr4", 1, 0);
    }

    private static void p43_commonestCountsEachStripOnce() {
        most("w", 2, 1, "9a", "b", "b");
        most("w", 2, 0, "9b", "a");
        most("w", 2, 25, "az", "bz");
        most("w", 2, 1, "bx", "by", "c");
        most("w", 2, 4, "xea", "yeb", "zec");
    }

    private static void p43_commonestOfSeveralTheLowest() {
        most("w", 2, 2, "dc");
        most("w", 2, 3, "zd", "dz");
    }

    private static void p43_commonestWithoutBlankOnes() {
        most("w", 2, 25, ".", ".", "z");
        most("w", 2, NONE, ".", "..");
        most("w", 2, NONE);
    }

    private static void p43_commonestOfStripsOnNoWheel() {
        most("wr5", 2, 1, "a", "b", "b", "c");
        most("wr5", 2, 3, "a", "b", "c", "d", "e", "d");
    }

    private static void p43_shownWithoutBlankOnes() {
        most("wr5", 3, 0);
        most("w;wp1", 3, 1, "a.");
        most("w;wp1", 3, 1 | 1 << 25, "az");
        most("w;w;w;w", 3, 1 << 3, "d");
        most("w;wp1;wp2;wp3", 3, 15, "abcd");
    }

    private static void p43_twinsAreTwoAtATime() {
        most("w", 4, 0, "a");
        most("w;w", 4, 1, "a");
        most("w;w;w", 4, 3, "a");
        most("w;w;w;w", 4, 6, "a");
        most("w;wp1;w;wp1", 4, 2, "ab");
        most("w;wp1;wp2;wp3", 4, 0, "abcd");
    }

    private static void p43_twinsWithoutBlankOnes() {
        most("w;w;w", 4, 0, ".");
        most("wr5;wr4", 4, 0);
        most("w;w;wp1;wp1", 4, 1, ".z");
    }

    private static void p43_backBits() {
        most("w;w;w;w", 5, 0);
        most("wb1;w;w;wb1", 5, 9);
        most("wb1;wb1;wb1;wb1v0", 5, 15);
    }

    private static void p43_bareBits() {
        most("w;wr1;wr2;wr5", 6, 12, "a", ".");
        most("w;w;w;w", 6, 15);
        most("w;w;w;w", 6, 0, ".");
    }

    private static void p43_stillBits() {
        most("wv0;wv1;wv3;wr5", 7, 13, "abc");
        most("so0;wv1;wv6b1", 7, 2, "abc");
        edges.same("by the law", by("y:p", "w;wp1;wp2;wv0p3", "abcd").most(7), 1);
        edges.same("at 9,999", atTheLastTick("wv1;wv0", "abc").most(7), 2);
        edges.same("held within 15", by("y:16", "w;wr1", SIXTEEN, "abcde").most(7), 2);
    }

    private static void p43_orderOfAlikeTheLowest() {
        most("w", 8, 0, "ab");
        most("w;w", 8, 1, "ab");
        most("wp1;w", 8, 10, "ab");
        most("w;w;w;w", 8, 123, "ab");
        most("wp3;wp2;wp1;w", 8, 3210, "abcd");
        most("wp1;w;wp1;w", 8, 1302, "ab");
        most("wp15;wp14;wp9;wp10", 8, 2310, SIXTEEN);
    }

    private static void p43_toTheNextFlash() {
        most("sf1;w", 9, 1);
        most("sf60;w", 9, 60);
        SlitDrum drum = Checks.drum("sf60;w", "ab");
        drum.ticks(59);
        edges.same("at 59 of 60", drum.most(9), 1);
        drum.ticks(1);
        edges.same("at 60 of 60", drum.most(9), 60);
        drum.flash(7);
        edges.same("at 60 of 7", drum.most(9), 3);
        edges.same("at 9,999 of 50", atTheLastTick("w").most(9), 1);
    }
}
