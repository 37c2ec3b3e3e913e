import java.util.Arrays;

/** Edges of promises 19, 21, 22, 44 and 45: years, undo, log, image, back. */
public final class EdgePastTest {
    private static final Edges edges = new Edges("EdgePastTest");
    private static final int NONE = Edges.NONE;
    private static final int BLANK = Edges.BLANK;

    public static void main(String[] args) {
        edges.run(EdgePastTest.class);
    }

    private static SlitDrum at(int tick) {
        SlitDrum drum = Checks.drum("so0;w", "ab");
        for (int left = tick; left > 0; left -= 60) {
            drum.ticks(Math.min(60, left));
        }
        return drum;
    }

    private static long drawn;

    private static int draw(int j) {
        drawn = drawn * 6364136223846793005L + 1442695040888963407L;
        return (int) ((drawn >>> 33) % j);
    }

    /** The first seed, 0 or above, whose first draw of 10 is that. */
    private static long seedWith(int first) {
        for (long seed = 0; seed < 1000; seed++) {
            drawn = seed;
            if (draw(10) == first) {
                return seed;
            }
        }
        return -1;
    }

    /** The first seed, 0 or above, by which the first year without a push leaves the speeds. */
    private static long seedWithoutSpeed() {
        for (long seed = 0; seed < 1000; seed++) {
            drawn = seed;
            draw(10);
            if (draw(10) >= 2) {
                return seed;
            }
        }
        return -1;
    }

    // ---- 19: years

    private static void p19_noLantern() {
        edges.refused("years(1, 1)", SlitDrum::new, drum -> drum.years(1, 1), NONE, Edges.NO_STATUS);
    }

    private static void p19_outOfBounds() {
        for (int n : new int[] {0, 61, -1, Edges.LEAST, Edges.MOST}) {
            edges.refused("years(" + n + ", 1)", drum -> drum.years(n, 1), NONE, Edges.NO_STATUS);
        }
    }

    private static void p19_beyondTheLastTick() {
        edges.refused("years(1, 1) at 9,999", () -> at(9999), drum -> drum.years(1, 1), NONE, Edges.NO_STATUS);
        edges.refused("years(60, 1) at 9,940", () -> at(9940), drum -> drum.years(60, 1), NONE, Edges.NO_STATUS);
    }

    private static void p19_theLastTick() {
        edges.same("years(1, 1) at 9,998", at(9998).years(1, 1), 9999);
        edges.same("years(60, 1) at 9,939", at(9939).years(60, 1), 9999);
    }

    private static void p19_oneAndSixty() {
        SlitDrum drum = Checks.drum("w", "ab");
        edges.same("years(1, 7)", drum.years(1, 7), 1);
        edges.same("an act", drum.count(9), 1);
        edges.same("years(60, 7)", drum.years(60, 7), 61);
        edges.same("forty acts", drum.count(9), 40);
    }

    /** The places and speeds behind fifty years, by draws of the test's own. */
    private static void yearsBy(long seed, int touch, int wheels) {
        SlitDrum drum = Checks.drum("so0k9f60" + Edges.times(";w", wheels), "abcdefg");
        drum.touch(touch);
        int[] places = new int[wheels];
        int[] speeds = new int[wheels];
        Arrays.fill(speeds, 1);
        drawn = seed;
        for (int i = 0; i < 50; i++) {
            if (draw(10) < touch) {
                int which = draw(wheels);
                places[which] += draw(9) + 1;
            }
            if (draw(10) < 2) {
                int which = draw(wheels);
                speeds[which] = draw(10);
            }
            for (int w = 0; w < wheels; w++) {
                places[w] = (places[w] + speeds[w]) % 7;
            }
        }
        edges.same("years(50, " + seed + ")", drum.years(50, seed), 50);
        for (int w = 0; w < wheels; w++) {
            edges.wheelIs(drum, w, speeds[w], 0, places[w], 0, 7, places[w]);
        }
        edges.same("oil comes and goes", drum.rule(1), 0);
        edges.same("for nothing", drum.rule(2), 9);
        edges.statuses(drum, 0, 0, 0, 0, 0);
    }

    private static void p19_seedsOfAllSizes() {
        for (long seed : new long[] {0, 1, -1, 1L << 31, 1L << 32, 1L << 63, Long.MAX_VALUE, -77777777777L}) {
            yearsBy(seed, 5, 3);
        }
    }

    private static void p19_touchFromZeroToNine() {
        for (int touch = 0; touch <= 9; touch++) {
            yearsBy(12345, touch, 2);
        }
    }

    private static void p19_oneWheelAndFour() {
        for (long seed = 0; seed < 5; seed++) {
            yearsBy(seed, 8, 1);
            yearsBy(seed, 8, 4);
        }
    }

    private static void p19_aDrawBelowTouch() {
        for (int touch = 1; touch <= 9; touch++) {
            for (int first = touch - 1; first <= touch; first++) {
                long seed = seedWith(first);
                SlitDrum drum = Checks.drum("so0;wv0", "abcdefghijk");
                drum.touch(touch);
                drawn = seed;
                draw(10);
                int by = 0;
                if (first < touch) {
                    draw(1);
                    by = draw(9) + 1;
                }
                int speed = draw(10) < 2 ? draw(1) + draw(10) : 0;
                drum.years(1, seed);
                edges.same("the place by " + first + " at touch " + touch, drum.wheel(0, 2), (by + speed) % 11);
            }
        }
    }

    private static void p19_touchZeroPushesNever() {
        SlitDrum drum = Checks.drum("so0;wv0", "abcdefghijk");
        drum.touch(0);
        for (long seed = 0; seed < 100; seed++) {
            drawn = seed;
            if (draw(10) == 0 && draw(10) >= 2) {
                drum.years(1, seed);
            }
        }
        edges.same("some years went by", drum.count(5) > 2, true);
        edges.same("place", drum.wheel(0, 2), 0);
    }

    private static void p19_theSeedBeginsAnew() {
        SlitDrum once = Checks.drum("wv1;wv2;wv3", "abcdefghijk");
        SlitDrum twice = Checks.drum("wv1;wv2;wv3", "abcdefghijk");
        once.years(20, 99);
        twice.years(10, 5);
        for (int i = 0; i < 10; i++) {
            twice.undo();
        }
        twice.years(20, 99);
        edges.same("the same by the same seed", Edges.seen(twice), Edges.seen(once));
    }

    private static void p19_oilAheadOfTheTick() {
        SlitDrum drum = Checks.drum("so0;wv3", "abcdefghijk");
        drum.touch(0);
        drum.years(1, seedWithoutSpeed());
        edges.same("it moves by the oil that came", drum.wheel(0, 2), 3);
        edges.same("and that is gone", drum.rule(1), 0);
    }

    private static SlitDrum withOil(int oil) {
        SlitDrum drum = Checks.drum("so99k99;w", "ab");
        for (int i = 0; i < 18; i++) {
            drum.give(50);
        }
        for (int left = oil - 99; left > 0; left -= 30) {
            drum.oil(Math.min(30, left));
        }
        return drum;
    }

    private static void p19_nineHundredAndNinetyNineOfOilAtMost() {
        SlitDrum drum = withOil(999);
        drum.years(1, 1);
        edges.same("999, then a tick", drum.rule(1), 998);
        drum = withOil(998);
        drum.years(1, 1);
        edges.same("998 and one, then a tick", drum.rule(1), 998);
    }

    private static void p19_eachTickWithWhatIsAheadIsOneAct() {
        for (long seed = 0; seed < 20; seed++) {
            SlitDrum drum = Checks.drum("sf1o5;wv1;wv1", "abcdefghijk");
            drum.touch(9);
            String before = Edges.seen(drum);
            drum.years(1, seed);
            edges.same("undo()", drum.undo(), 0);
            edges.same("all is as it was", Edges.seen(drum), before);
        }
    }

    private static void p19_theLogAndItsCoins() {
        SlitDrum drum = Checks.drum("sf1o0k0;w;w", "a");
        drum.years(60, 3);
        edges.same("count(8)", drum.count(8), 60);
        edges.same("coins", drum.rule(2), 60);
    }

    private static void p19_byTheLawThatHolds() {
        SlitDrum drum = Checks.drum("so0;wv1", "abcdefghijk");
        drum.touch(0);
        drum.law(Checks.tell(drum, Checks.LAW, "y:t+1"));
        drum.years(3, 1);
        edges.same("1, 2 and 3", drum.wheel(0, 2), 6);
    }

    // ---- 21: undo

    private static void p21_none() {
        edges.refused("undo()", SlitDrum::new, SlitDrum::undo, NONE, Edges.NO_STATUS);
        edges.refused("undo()", () -> Checks.drum("w", "ab"), SlitDrum::undo, NONE, Edges.NO_STATUS);
    }

    private static void p21_noneMore() {
        SlitDrum drum = Checks.drum("w", "ab");
        drum.about(0);
        edges.same("undo()", drum.undo(), 0);
        String then = Edges.seen(drum);
        edges.same("undo() once more", drum.undo(), NONE);
        edges.same("as it was", Edges.seen(drum), then);
    }

    private static void p21_theLatestForty() {
        SlitDrum drum = Checks.drum("so99;wv1", "abcdefghijklmnop");
        drum.ticks(40);
        edges.same("forty", drum.count(9), 40);
        drum.ticks(1);
        edges.same("forty of 41", drum.count(9), 40);
        for (int left = 39; left >= 0; left--) {
            edges.same("undo()", drum.undo(), left);
            edges.same("the tick then", drum.count(5), left + 1);
            edges.same("the place then", drum.wheel(0, 2), (left + 1) % 16);
        }
        edges.same("undo()", drum.undo(), NONE);
        edges.same("the first tick stays", drum.count(5), 1);
        edges.same("place", drum.wheel(0, 2), 1);
    }

    private static void p21_oneByOneTheLatestFirst() {
        SlitDrum drum = Checks.drum("w", "abcd");
        drum.flash(9);
        drum.push(0, 2);
        drum.flash(8);
        drum.undo();
        edges.same("flash", drum.rule(0), 9);
        edges.same("place", drum.wheel(0, 2), 2);
        drum.undo();
        edges.same("place", drum.wheel(0, 2), 0);
        edges.same("flash", drum.rule(0), 9);
        drum.undo();
        edges.same("flash", drum.rule(0), 6);
    }

    private static void undone(String what, Edges.Call act) {
        SlitDrum drum = Edges.rich();
        int acts = drum.count(9);
        String before = Edges.seen(drum);
        edges.same(what + " is not refused", act.on(drum) != NONE, true);
        edges.same(what + " is an act", drum.count(9), acts + 1);
        edges.same("undo() of " + what, drum.undo(), acts);
        edges.same(what + " undone", Edges.seen(drum), before);
    }

    private static void p21_eachSortOfAct() {
        undone("ticks(1)", drum -> drum.ticks(1));
        undone("flash(9)", drum -> drum.flash(9));
        undone("speed(0, 9)", drum -> drum.speed(0, 9));
        undone("about(1)", drum -> drum.about(1));
        undone("push(2, 3)", drum -> drum.push(2, 3));
        undone("puts(0, 2)", drum -> drum.puts(0, 2));
        undone("oil(7)", drum -> drum.oil(7));
        undone("give(50)", drum -> drum.give(50));
        undone("years(1, 4)", drum -> drum.years(1, 4));
    }

    private static void p21_thePlaceThatAStripCutShort() {
        SlitDrum drum = Checks.drum("wp4", "abcde", "xyz");
        drum.puts(0, 1);
        drum.undo();
        edges.wheelIs(drum, 0, 1, 0, 4, 0, 5, 4);
    }

    private static void p21_theLogToo() {
        SlitDrum drum = Checks.drum("sf1o99;wv1", "abcdefghijklmnop");
        drum.ticks(60);
        drum.ticks(1);
        edges.same("the oldest is gone", drum.log(59, 0), 2);
        drum.undo();
        edges.same("count(8)", drum.count(8), 60);
        edges.same("the latest", drum.log(0, 0), 60 % 16);
        edges.same("the oldest is there again", drum.log(59, 0), 1);
        drum.undo();
        edges.same("count(8)", drum.count(8), 59);
        edges.same("log(58, 0)", drum.log(58, 0), 1);
        edges.same("log(59, 0)", drum.log(59, 0), NONE);
    }

    private static void p21_fortyRowsOfTheLog() {
        SlitDrum drum = Checks.drum("sf1o99;wv1", "abcdefghijklmnop");
        drum.ticks(60);
        drum.ticks(39);
        drum.ticks(1);
        for (int i = 0; i < 40; i++) {
            drum.undo();
        }
        for (int i = 0; i < 60; i++) {
            edges.same("log(" + i + ", 0)", drum.log(i, 0), (60 - i) % 16);
        }
    }

    private static void p21_theRowThatWasDroppedIsThereAgain() {
        for (int rows = 60; rows <= 121; rows++) {
            SlitDrum drum = Checks.drum("sf1o99;wv1", "abcdefghijkl.");
            drum.ticks(60);
            drum.oil(30);
            for (int i = 60; i < rows; i++) {
                drum.ticks(1);
            }
            drum.ticks(1);
            drum.undo();
            edges.same("the oldest of " + rows, drum.log(59, 0), shown(rows - 59));
            edges.same("the latest of " + rows, drum.log(0, 0), shown(rows));
        }
    }

    /** What a wheel of a to l and a blank one shows behind so many ticks. */
    private static int shown(int tick) {
        return tick % 13 == 12 ? BLANK : tick % 13;
    }

    private static void p21_whatIsNoActStays() {
        SlitDrum drum = Edges.rich();
        drum.about(0);
        drum.law(1);
        drum.touch(7);
        drum.noted(5, 5, true);
        Checks.tell(drum, Checks.STRIP, "q");
        Checks.tell(drum, Checks.LAW, "y:9");
        Checks.feed(drum, "xyz");
        drum.undo();
        int[] due = {4, 3, 4, 3, 1, 7, 7, 2};
        for (int what = 0; what < due.length; what++) {
            edges.same("count(" + what + ")", drum.count(what), due[what]);
        }
    }

    private static void p21_theImageStays() {
        SlitDrum drum = Checks.drum("wv1", "abcd");
        drum.ticks(2);
        drum.image();
        drum.undo();
        drum.undo();
        edges.same("back()", drum.back(), 2);
        edges.same("place", drum.wheel(0, 2), 2);
    }

    private static void p21_actsGoOnBehindIt() {
        SlitDrum drum = Checks.drum("wv1", "abcd");
        drum.ticks(3);
        drum.undo();
        drum.undo();
        drum.push(0, 2);
        edges.same("count(9)", drum.count(9), 2);
        edges.same("undo()", drum.undo(), 1);
        edges.same("place", drum.wheel(0, 2), 1);
        edges.same("undo()", drum.undo(), 0);
        edges.same("place", drum.wheel(0, 2), 0);
        edges.same("undo()", drum.undo(), NONE);
    }

    private static void p21_aRefusedCallIsNoAct() {
        SlitDrum drum = Checks.drum("wv1", "abcd");
        drum.flash(9);
        drum.flash(9);
        drum.ticks(0);
        drum.speed(0, 10);
        edges.same("count(9)", drum.count(9), 1);
        edges.same("undo()", drum.undo(), 0);
        edges.same("flash", drum.rule(0), 6);
    }

    private static void p21_itIsNoActItself() {
        SlitDrum drum = Checks.drum("wv1", "abcd");
        drum.ticks(2);
        drum.undo();
        edges.same("count(9)", drum.count(9), 1);
        edges.same("undo()", drum.undo(), 0);
        edges.same("count(5)", drum.count(5), 0);
    }

    // ---- 22: log

    private static void p22_empty() {
        edges.same("no lantern", new SlitDrum().log(0, 0), NONE);
        edges.same("no flash yet", Checks.drum("w", "ab").log(0, 0), NONE);
    }

    private static void p22_noSuchRow() {
        for (int i : new int[] {-1, 2, 60, Edges.LEAST, Edges.MOST}) {
            edges.refused("log(" + i + ", 0) of two", drum -> drum.log(i, 0), NONE, Edges.NO_STATUS);
        }
    }

    private static void p22_noSuchWheel() {
        for (int wheel : new int[] {-1, 4, Edges.LEAST, Edges.MOST}) {
            edges.refused("log(0, " + wheel + ")", drum -> drum.log(0, wheel), NONE, Edges.NO_STATUS);
        }
    }

    private static void p22_wheelsNotThereAreBlank() {
        SlitDrum drum = Checks.drum("sf1o0;wp3;wr4", "abcd");
        drum.ticks(1);
        int[] due = {3, BLANK, BLANK, BLANK};
        for (int w = 0; w < due.length; w++) {
            edges.same("log(0, " + w + ")", drum.log(0, w), due[w]);
        }
    }

    private static void p22_theLatestFirst() {
        SlitDrum drum = Checks.drum("sf2o99;wv1;wv0;wv1b1;wv0p2", "abcdefghijklmnop");
        drum.ticks(6);
        int[][] due = {{6, 0, 10, 2}, {4, 0, 12, 2}, {2, 0, 14, 2}};
        for (int i = 0; i < due.length; i++) {
            for (int w = 0; w < 4; w++) {
                edges.same("log(" + i + ", " + w + ")", drum.log(i, w), due[i][w]);
            }
        }
        edges.same("log(3, 0)", drum.log(3, 0), NONE);
    }

    private static void p22_theLatestSixty() {
        SlitDrum drum = Checks.drum("sf1o99;wv1", "abcdefghijklmnop");
        drum.ticks(59);
        edges.same("count(8)", drum.count(8), 59);
        edges.same("log(58, 0)", drum.log(58, 0), 1);
        edges.same("log(59, 0)", drum.log(59, 0), NONE);
        drum.ticks(1);
        edges.same("count(8)", drum.count(8), 60);
        edges.same("log(59, 0)", drum.log(59, 0), 1);
        drum.ticks(1);
        edges.same("count(8)", drum.count(8), 60);
        edges.same("log(59, 0)", drum.log(59, 0), 2);
        edges.same("log(60, 0)", drum.log(60, 0), NONE);
        edges.same("log(0, 0)", drum.log(0, 0), 61 % 16);
    }

    private static void p22_whatWasShownThen() {
        SlitDrum drum = Checks.drum("sf1o0;w", "ab", "yz");
        drum.ticks(1);
        drum.puts(0, 1);
        edges.same("log(0, 0)", drum.log(0, 0), 0);
        SlitDrum bare = Checks.drum("sf1o0;wr0");
        bare.ticks(1);
        Checks.tell(bare, Checks.STRIP, "a");
        edges.same("bare then", bare.log(0, 0), BLANK);
    }

    private static void p22_zAndBlankInEachPlace() {
        SlitDrum drum = Checks.drum("sf1o0;w;wp1;w;wp1", "z.");
        drum.ticks(1);
        int[] due = {25, BLANK, 25, BLANK};
        for (int w = 0; w < 4; w++) {
            edges.same("log(0, " + w + ")", drum.log(0, w), due[w]);
        }
    }

    // ---- 44: image

    private static void p44_noLantern() {
        edges.refused("image()", SlitDrum::new, SlitDrum::image, NONE, Edges.NO_STATUS);
    }

    private static void p44_theTick() {
        SlitDrum drum = Checks.drum("w", "ab");
        edges.same("image() at 0", drum.image(), 0);
        drum.ticks(5);
        edges.same("image() at 5", drum.image(), 5);
        edges.same("image() at 9,999", at(9999).image(), 9999);
    }

    private static void p44_insteadOfTheOneAhead() {
        SlitDrum drum = Checks.drum("wv1", "abcdefgh");
        drum.ticks(1);
        drum.image();
        drum.ticks(2);
        drum.image();
        drum.ticks(3);
        edges.same("back()", drum.back(), 3);
        edges.same("place", drum.wheel(0, 2), 3);
        edges.same("back() once more", drum.back(), 3);
    }

    private static void p44_itIsNoActAndChangesNothing() {
        SlitDrum drum = Edges.rich();
        String before = Edges.seen(drum);
        drum.image();
        edges.same("seen", Edges.seen(drum), before);
        edges.same("undo()", drum.undo(), 8);
    }

    // ---- 45: back

    private static void p45_noImage() {
        edges.refused("back()", SlitDrum::new, SlitDrum::back, NONE, Edges.NO_STATUS);
        edges.refused("back()", () -> {
            SlitDrum drum = Checks.drum("w", "abcd");
            drum.ticks(3);
            return drum;
        }, SlitDrum::back, NONE, Edges.NO_STATUS);
    }

    private static void p45_noImageOfThisLantern() {
        edges.refused("back()", () -> {
            SlitDrum drum = Checks.drum("w", "abcd");
            drum.image();
            Checks.tell(drum, Checks.LANTERN, "w");
            drum.ticks(3);
            return drum;
        }, SlitDrum::back, NONE, Edges.NO_STATUS);
    }

    private static void p45_aRefusedLanternLeavesTheImage() {
        SlitDrum drum = Checks.drum("w", "abcd");
        drum.image();
        drum.ticks(2);
        edges.same("text(0)", Checks.tell(drum, Checks.LANTERN, "w;"), NONE);
        edges.same("back()", drum.back(), 0);
    }

    private static void p45_anImageOfTheNextLantern() {
        SlitDrum drum = Checks.drum("w", "abcd");
        drum.image();
        Checks.tell(drum, Checks.LANTERN, "wv3;w");
        drum.image();
        drum.ticks(1);
        edges.same("back()", drum.back(), 0);
        edges.same("count(0)", drum.count(0), 2);
        edges.wheelIs(drum, 0, 3, 0, 0, 0, 4, 0);
    }

    private static void p45_allThatItKeeps() {
        SlitDrum drum = Checks.drum("sf2o20k20;wv1p1;wv2r1", "abcd", "xyz");
        drum.ticks(5);
        drum.image();
        String kept = "";
        for (int i = 0; i < 2; i++) {
            kept += drum.log(i, 0) + " " + drum.log(i, 1) + " ";
        }
        drum.flash(9);
        drum.speed(0, 7);
        drum.about(1);
        drum.push(1, 1);
        drum.puts(0, 1);
        drum.oil(9);
        drum.give(9);
        drum.ticks(30);
        edges.same("back()", drum.back(), 5);
        edges.same("count(5)", drum.count(5), 5);
        edges.same("flash", drum.rule(0), 2);
        edges.same("oil", drum.rule(1), 15);
        edges.same("coins", drum.rule(2), 20);
        edges.wheelIs(drum, 0, 1, 0, 2, 0, 4, 2);
        edges.wheelIs(drum, 1, 2, 0, 1, 1, 3, 24);
        String log = "";
        for (int i = 0; i < 2; i++) {
            log += drum.log(i, 0) + " " + drum.log(i, 1) + " ";
        }
        edges.same("the log", log, kept);
        edges.same("count(8)", drum.count(8), 2);
    }

    private static void p45_aFullLogComesBack() {
        SlitDrum drum = Checks.drum("sf1o99;wv1", "abcdefghijklmnop");
        drum.ticks(60);
        drum.image();
        drum.ticks(30);
        drum.back();
        for (int i = 0; i < 60; i++) {
            edges.same("log(" + i + ", 0)", drum.log(i, 0), (60 - i) % 16);
        }
    }

    private static void p45_theRowThatWasDroppedComesBack() {
        for (int rows = 60; rows <= 121; rows++) {
            SlitDrum drum = Checks.drum("sf1o99;wv1", "abcdefghijkl.");
            drum.ticks(60);
            drum.oil(30);
            for (int i = 60; i < rows; i++) {
                drum.ticks(1);
            }
            drum.image();
            drum.ticks(1);
            drum.back();
            edges.same("the oldest of " + rows, drum.log(59, 0), shown(rows - 59));
            edges.same("the latest of " + rows, drum.log(0, 0), shown(rows));
        }
    }

    private static void p45_noActCanBeUndoneThen() {
        SlitDrum drum = Checks.drum("w", "abcd");
        drum.ticks(3);
        drum.image();
        drum.ticks(3);
        drum.back();
        edges.same("count(9)", drum.count(9), 0);
        edges.same("undo()", drum.undo(), NONE);
        edges.same("count(5)", drum.count(5), 3);
    }

    private static void p45_laterActsCanBeUndone() {
        SlitDrum drum = Checks.drum("wv1", "abcd");
        drum.ticks(3);
        drum.image();
        drum.back();
        drum.ticks(2);
        edges.same("undo()", drum.undo(), 1);
        edges.same("undo()", drum.undo(), 0);
        edges.same("undo()", drum.undo(), NONE);
        edges.same("place", drum.wheel(0, 2), 3);
    }

    private static void p45_againAndAgain() {
        SlitDrum drum = Checks.drum("wv1", "abcd");
        drum.ticks(1);
        drum.image();
        for (int i = 0; i < 3; i++) {
            drum.ticks(2);
            edges.same("back()", drum.back(), 1);
            edges.same("place", drum.wheel(0, 2), 1);
        }
    }

    private static void p45_whatItDoesNotKeepStays() {
        SlitDrum drum = Edges.rich();
        drum.image();
        drum.law(1);
        drum.touch(7);
        drum.noted(5, 5, true);
        Checks.tell(drum, Checks.STRIP, "q");
        Checks.tell(drum, Checks.LAW, "y:9");
        Checks.feed(drum, "xyz");
        drum.back();
        int[] due = {4, 3, 4, 3, 1, 7, 7, 2};
        for (int what = 0; what < due.length; what++) {
            edges.same("count(" + what + ")", drum.count(what), due[what]);
        }
    }

    private static void p45_fromTheLastTick() {
        SlitDrum drum = at(9990);
        drum.image();
        drum.ticks(9);
        edges.same("ticks(1)", drum.ticks(1), NONE);
        edges.same("back()", drum.back(), 9990);
        edges.same("ticks(9)", drum.ticks(9), 9999);
    }
}
