import java.util.function.Supplier;

/** Edges of promises 11 to 18: ticks, flash, speed, about, push, puts, oil, give. */
public final class EdgeActTest {
    private static final Edges edges = new Edges("EdgeActTest");
    private static final int NONE = Edges.NONE;
    private static final int BLANK = Edges.BLANK;
    private static final int NO_SUCH = 0;
    private static final int OUT = 1;
    private static final int SO = 2;
    private static final int DEAR = 3;
    private static final int LATE = 4;

    public static void main(String[] args) {
        edges.run(EdgeActTest.class);
    }

    private static Supplier<SlitDrum> made(String lantern, String... strips) {
        return () -> Checks.drum(lantern, strips);
    }

    /** At that tick. */
    private static SlitDrum at(int tick, String lantern, String... strips) {
        SlitDrum drum = Checks.drum(lantern, strips);
        for (int left = tick; left > 0; left -= 60) {
            drum.ticks(Math.min(60, left));
        }
        return drum;
    }

    /** With that many coins, 99 or more. */
    private static SlitDrum withCoins(int coins, String rest, String... strips) {
        SlitDrum drum = Checks.drum("sk99" + rest, strips);
        for (int left = coins - 99; left > 0; left -= 50) {
            drum.give(Math.min(50, left));
        }
        return drum;
    }

    /** With that much oil, 99 or more, and coins enough. */
    private static SlitDrum withOil(int oil) {
        SlitDrum drum = withCoins(999, "o99;w", "ab");
        for (int left = oil - 99; left > 0; left -= 30) {
            drum.oil(Math.min(30, left));
        }
        return drum;
    }

    // ---- 11: ticks

    private static void p11_noLantern() {
        for (int n : new int[] {1, 0, 61}) {
            edges.refused("ticks(" + n + ")", SlitDrum::new, drum -> drum.ticks(n), NONE, NO_SUCH);
        }
    }

    private static void p11_outOfBounds() {
        for (int n : new int[] {0, 61, -1, Edges.LEAST, Edges.MOST}) {
            edges.refused("ticks(" + n + ")", drum -> drum.ticks(n), NONE, OUT);
        }
    }

    private static void p11_oneAndSixty() {
        SlitDrum drum = Checks.drum("w", "ab");
        edges.same("ticks(1)", drum.ticks(1), 1);
        edges.same("ticks(60)", drum.ticks(60), 61);
    }

    private static void p11_theLastTick() {
        SlitDrum drum = at(9998, "so0;w", "ab");
        edges.same("ticks(1) at 9,998", drum.ticks(1), 9999);
        drum = at(9939, "so0;w", "ab");
        edges.same("ticks(60) at 9,939", drum.ticks(60), 9999);
    }

    private static void p11_beyondTheLastTick() {
        edges.refused("ticks(1) at 9,999", () -> at(9999, "so0;w", "ab"), drum -> drum.ticks(1), NONE, LATE);
        edges.refused("ticks(2) at 9,998", () -> at(9998, "so0;w", "ab"), drum -> drum.ticks(2), NONE, LATE);
        edges.refused("ticks(60) at 9,940", () -> at(9940, "so0;w", "ab"), drum -> drum.ticks(60), NONE, LATE);
    }

    private static void p11_outOfBoundsIsAheadOfBeyond() {
        for (int n : new int[] {61, Edges.MOST}) {
            edges.refused("ticks(" + n + ")", () -> at(9999, "so0;w", "ab"), drum -> drum.ticks(n), NONE, OUT);
        }
    }

    private static void p11_eachTickIsAnAct() {
        SlitDrum drum = Checks.drum("wv1", "abcde");
        drum.ticks(3);
        edges.same("count(9)", drum.count(9), 3);
        edges.same("undo()", drum.undo(), 2);
        edges.same("count(5)", drum.count(5), 2);
        edges.same("place", drum.wheel(0, 2), 2);
    }

    private static void p11_oilIsUsedUp() {
        SlitDrum drum = Checks.drum("so2;wv1", "abcde");
        int[] oil = {1, 0, 0, 0};
        int[] place = {1, 2, 2, 2};
        for (int i = 0; i < oil.length; i++) {
            drum.ticks(1);
            edges.same("oil", drum.rule(1), oil[i]);
            edges.same("place", drum.wheel(0, 2), place[i]);
            edges.same("the tick comes all the same", drum.count(5), i + 1);
        }
    }

    private static void p11_noOilButTheLog() {
        SlitDrum drum = Checks.drum("sf1o0k0;w;w", "ab");
        drum.ticks(2);
        edges.same("count(8)", drum.count(8), 2);
        edges.same("coins", drum.rule(2), 2);
    }

    private static void p11_roundForward() {
        SlitDrum drum = Checks.drum("wv1p3;wv9p3;wv4p3", "abcd");
        drum.ticks(1);
        edges.same("3 and 1 of 4", drum.wheel(0, 2), 0);
        edges.same("3 and 9 of 4", drum.wheel(1, 2), 0);
        edges.same("3 and 4 of 4", drum.wheel(2, 2), 3);
    }

    private static void p11_roundBackward() {
        SlitDrum drum = Checks.drum("wv1b1;wv9b1;wv4b1;wv0b1", "abcd");
        drum.ticks(1);
        edges.same("0 less 1 of 4", drum.wheel(0, 2), 3);
        edges.same("0 less 9 of 4", drum.wheel(1, 2), 3);
        edges.same("0 less 4 of 4", drum.wheel(2, 2), 0);
        edges.same("0 less 0 of 4", drum.wheel(3, 2), 0);
    }

    private static void p11_allWheelsByWhatIsAheadOfTheTick() {
        SlitDrum drum = Checks.drum("wp1;wp2", "abcdefgh");
        drum.law(Checks.tell(drum, Checks.LAW, "y:p+t"));
        drum.ticks(2);
        edges.same("1 to 2, by 1 more to 5", drum.wheel(0, 2), 5);
        edges.same("2 to 4, by 1 more to 1", drum.wheel(1, 2), 1);
    }

    private static void p11_theLogAtWholeFlashes() {
        SlitDrum drum = Checks.drum("sf3;w", "ab");
        int[] due = {0, 0, 1, 1, 1, 2};
        for (int i = 0; i < due.length; i++) {
            drum.ticks(1);
            edges.same("count(8) at " + (i + 1), drum.count(8), due[i]);
        }
    }

    private static void p11_theLogByTheFlashOfThatTick() {
        SlitDrum drum = Checks.drum("sf60;w", "ab");
        drum.ticks(59);
        edges.same("at 59", drum.count(8), 0);
        drum.ticks(1);
        edges.same("at 60", drum.count(8), 1);
        drum.flash(7);
        drum.ticks(2);
        edges.same("at 62", drum.count(8), 1);
        drum.ticks(1);
        edges.same("at 63, 9 times 7", drum.count(8), 2);
    }

    private static void p11_theLogBehindTheMove() {
        SlitDrum drum = Checks.drum("sf1;wv1", "abcd");
        drum.ticks(1);
        edges.same("log(0, 0)", drum.log(0, 0), 1);
    }

    private static void p11_theLogOfWheelsNotThere() {
        SlitDrum drum = Checks.drum("sf1o0;wp1", "ab");
        drum.ticks(1);
        int[] due = {1, BLANK, BLANK, BLANK};
        for (int w = 0; w < 4; w++) {
            edges.same("log(0, " + w + ")", drum.log(0, w), due[w]);
        }
    }

    private static void p11_aCoinByTwoWheelsOrMore() {
        SlitDrum one = Checks.drum("sf1o0k0;w", "ab");
        one.ticks(3);
        edges.same("one wheel", one.rule(2), 0);
        SlitDrum two = Checks.drum("sf1o0k0;w;w", "ab");
        two.ticks(3);
        edges.same("two wheels", two.rule(2), 3);
        SlitDrum four = Checks.drum("sf1o0k0;w;w;w;w", "ab");
        four.ticks(3);
        edges.same("four wheels", four.rule(2), 3);
    }

    private static void p11_aCoinByAllWheels() {
        for (String lantern : "wp1;w;w;w w;wp1;w;w w;w;wp1;w w;w;w;wp1".split(" ")) {
            SlitDrum drum = Checks.drum("sf1o0k0;" + lantern, "ab");
            drum.ticks(3);
            edges.same("coins of " + lantern, drum.rule(2), 0);
        }
    }

    private static void p11_noCoinByBlankOnes() {
        SlitDrum blank = Checks.drum("sf1o0k0;w;w", ".a");
        blank.ticks(3);
        edges.same("blank ones", blank.rule(2), 0);
        SlitDrum bare = Checks.drum("sf1o0k0;wr5;wr5", ".a");
        bare.ticks(3);
        edges.same("bare ones", bare.rule(2), 0);
        SlitDrum last = Checks.drum("sf1o0k0;w;w", "za");
        last.ticks(3);
        edges.same("z is not blank", last.rule(2), 3);
    }

    private static void p11_aCoinAtFlashesAlone() {
        SlitDrum drum = Checks.drum("sf3o0k0;w;w", "ab");
        drum.ticks(2);
        edges.same("at 2", drum.rule(2), 0);
        drum.ticks(1);
        edges.same("at 3", drum.rule(2), 1);
        drum.ticks(2);
        edges.same("at 5", drum.rule(2), 1);
    }

    private static void p11_nineHundredAndNinetyNineCoinsAtMost() {
        SlitDrum drum = withCoins(998, "f1o0;w;w", "ab");
        drum.ticks(1);
        edges.same("one more than 998", drum.rule(2), 999);
        drum.ticks(1);
        edges.same("none more than 999", drum.rule(2), 999);
        edges.same("the log goes on", drum.count(8), 2);
    }

    // ---- 12: flash

    private static void p12_noLantern() {
        for (int f : new int[] {1, 0, 61}) {
            edges.refused("flash(" + f + ")", SlitDrum::new, drum -> drum.flash(f), NONE, NO_SUCH);
        }
    }

    private static void p12_outOfBounds() {
        for (int f : new int[] {0, 61, -1, Edges.LEAST, Edges.MOST}) {
            edges.refused("flash(" + f + ")", drum -> drum.flash(f), NONE, OUT);
        }
    }

    private static void p12_itIsSo() {
        edges.refused("flash(4)", drum -> drum.flash(4), NONE, SO);
        edges.refused("flash(6), not told", made("w"), drum -> drum.flash(6), NONE, SO);
    }

    private static void p12_theLeastAndTheMost() {
        SlitDrum drum = Checks.drum("sk0;w");
        edges.same("flash(1)", drum.flash(1), 6);
        edges.same("rule(0)", drum.rule(0), 1);
        edges.same("flash(60)", drum.flash(60), 1);
        edges.same("rule(0)", drum.rule(0), 60);
        edges.same("for nothing", drum.rule(2), 0);
        edges.same("two acts", drum.count(9), 2);
    }

    // ---- 13: speed

    private static void p13_noSuchWheel() {
        for (int wheel : new int[] {-1, 4, Edges.LEAST, Edges.MOST}) {
            edges.refused("speed(" + wheel + ", 5)", drum -> drum.speed(wheel, 5), NONE, NO_SUCH);
        }
        edges.refused("of two", made("w;w"), drum -> drum.speed(2, 5), NONE, NO_SUCH);
        edges.refused("no lantern", SlitDrum::new, drum -> drum.speed(0, 5), NONE, NO_SUCH);
    }

    private static void p13_outOfBounds() {
        for (int v : new int[] {-1, 10, Edges.LEAST, Edges.MOST}) {
            edges.refused("speed(0, " + v + ")", drum -> drum.speed(0, v), NONE, OUT);
        }
    }

    private static void p13_itIsSo() {
        edges.refused("speed(0, 1)", drum -> drum.speed(0, 1), NONE, SO);
        edges.refused("speed(1, 2) though it turns back", drum -> drum.speed(1, 2), NONE, SO);
    }

    private static void p13_noCoin() {
        edges.refused("speed(0, 5)", made("sk0;w", "ab"), drum -> drum.speed(0, 5), NONE, DEAR);
    }

    private static void p13_ofSeveralTheFirst() {
        Supplier<SlitDrum> poor = made("sk0;w", "ab");
        edges.refused("no wheel, out, no coin", poor, drum -> drum.speed(1, 10), NONE, NO_SUCH);
        edges.refused("out, no coin", poor, drum -> drum.speed(0, 10), NONE, OUT);
        edges.refused("so, no coin", poor, drum -> drum.speed(0, 1), NONE, SO);
    }

    private static void p13_theLeastAndTheMost() {
        SlitDrum drum = Checks.drum("sk2;w;w;w;wv4b1", "ab");
        edges.same("speed(3, 0)", drum.speed(3, 0), 4);
        edges.same("speed(3, 9)", drum.speed(3, 9), 0);
        edges.same("the last coin is gone", drum.rule(2), 0);
        edges.wheelIs(drum, 3, 9, 1, 0);
        edges.same("two acts", drum.count(9), 2);
    }

    // ---- 14: about

    private static void p14_noSuchWheel() {
        for (int wheel : new int[] {-1, 4, Edges.LEAST, Edges.MOST}) {
            edges.refused("about(" + wheel + ")", drum -> drum.about(wheel), NONE, NO_SUCH);
        }
        edges.refused("of two", made("w;w"), drum -> drum.about(2), NONE, NO_SUCH);
        edges.refused("no lantern", SlitDrum::new, drum -> drum.about(0), NONE, NO_SUCH);
    }

    private static void p14_backAndNotAnyMore() {
        SlitDrum drum = Checks.drum("sk0;w;w;w;w", "ab");
        edges.same("about(3)", drum.about(3), 1);
        edges.same("wheel(3, 1)", drum.wheel(3, 1), 1);
        edges.same("about(3)", drum.about(3), 0);
        edges.same("wheel(3, 1)", drum.wheel(3, 1), 0);
        edges.same("for nothing", drum.rule(2), 0);
        edges.same("two acts", drum.count(9), 2);
    }

    private static void p14_aStillWheelToo() {
        SlitDrum drum = Checks.drum("wv0;wr5", "ab");
        edges.same("speed 0", drum.about(0), 1);
        edges.same("bare", drum.about(1), 1);
    }

    // ---- 15: push

    private static void p15_noSuchWheel() {
        for (int wheel : new int[] {-1, 4, Edges.LEAST, Edges.MOST}) {
            edges.refused("push(" + wheel + ", 1)", drum -> drum.push(wheel, 1), NONE, NO_SUCH);
        }
        edges.refused("of two", made("w;w"), drum -> drum.push(2, 1), NONE, NO_SUCH);
        edges.refused("no lantern", SlitDrum::new, drum -> drum.push(0, 1), NONE, NO_SUCH);
    }

    private static void p15_outOfBounds() {
        for (int n : new int[] {0, 10, -1, Edges.LEAST, Edges.MOST}) {
            edges.refused("push(0, " + n + ")", drum -> drum.push(0, n), NONE, OUT);
        }
    }

    private static void p15_noCoin() {
        edges.refused("push(0, 1)", made("sk0;w", "ab"), drum -> drum.push(0, 1), NONE, DEAR);
    }

    private static void p15_ofSeveralTheFirst() {
        Supplier<SlitDrum> poor = made("sk0;w", "ab");
        edges.refused("no wheel, out, no coin", poor, drum -> drum.push(1, 10), NONE, NO_SUCH);
        edges.refused("out, no coin", poor, drum -> drum.push(0, 10), NONE, OUT);
    }

    private static void p15_theLeastAndTheMost() {
        SlitDrum drum = Checks.drum("sk2;w", "abcdefghijkl");
        edges.same("push(0, 1)", drum.push(0, 1), 1);
        edges.same("push(0, 9)", drum.push(0, 9), 10);
        edges.same("the last coin is gone", drum.rule(2), 0);
        edges.same("two acts", drum.count(9), 2);
    }

    private static void p15_round() {
        SlitDrum drum = Checks.drum("wp3;wp3b1;wr5;wr1", "abcd", "a");
        edges.same("3 and 1 of 4", drum.push(0, 1), 0);
        edges.same("3 and 9 of 4, also if it turns back", drum.push(1, 9), 0);
        edges.same("a bare one", drum.push(2, 5), 0);
        edges.same("one picture", drum.push(3, 5), 0);
    }

    // ---- 16: puts

    private static void p16_noSuchWheel() {
        for (int wheel : new int[] {-1, 4, Edges.LEAST, Edges.MOST}) {
            edges.refused("puts(" + wheel + ", 1)", drum -> drum.puts(wheel, 1), NONE, NO_SUCH);
        }
        edges.refused("of two", made("w;w", "ab"), drum -> drum.puts(2, 0), NONE, NO_SUCH);
        edges.refused("no lantern", SlitDrum::new, drum -> drum.puts(0, 0), NONE, NO_SUCH);
    }

    private static void p16_noSuchStrip() {
        for (int strip : new int[] {-1, 3, 5, 6, Edges.LEAST, Edges.MOST}) {
            edges.refused("puts(0, " + strip + ")", drum -> drum.puts(0, strip), NONE, NO_SUCH);
        }
    }

    private static void p16_aStripNotThereThatIsOnIt() {
        edges.refused("puts(3, 5)", drum -> drum.puts(3, 5), NONE, NO_SUCH);
    }

    private static void p16_itIsOnIt() {
        edges.refused("puts(0, 0)", drum -> drum.puts(0, 0), NONE, SO);
        edges.refused("puts(1, 1)", drum -> drum.puts(1, 1), NONE, SO);
    }

    private static void p16_tooFewCoins() {
        edges.refused("none", made("sk0;w", "ab", "a"), drum -> drum.puts(0, 1), NONE, DEAR);
        edges.refused("one", made("sk1;w", "ab", "a"), drum -> drum.puts(0, 1), NONE, DEAR);
    }

    private static void p16_ofSeveralTheFirst() {
        Supplier<SlitDrum> poor = made("sk0;w", "ab", "a");
        edges.refused("no strip, no coins", poor, drum -> drum.puts(0, 2), NONE, NO_SUCH);
        edges.refused("on it, no coins", poor, drum -> drum.puts(0, 0), NONE, SO);
    }

    private static void p16_twoCoinsAreEnough() {
        SlitDrum drum = Checks.drum("sk2;wp3", "abcde", "xyz");
        edges.same("puts(0, 1)", drum.puts(0, 1), 3);
        edges.same("coins", drum.rule(2), 0);
        edges.wheelIs(drum, 0, 1, 0, 0, 1, 3, 23);
        edges.same("an act", drum.count(9), 1);
    }

    private static void p16_placeModuloLong() {
        SlitDrum drum = Checks.drum("wp4;wp2;wp3", "abcde", "xyz", "abcdefgh");
        drum.puts(0, 1);
        edges.same("4 of 3", drum.wheel(0, 2), 1);
        drum.puts(1, 1);
        edges.same("2 of 3", drum.wheel(1, 2), 2);
        drum.puts(2, 2);
        edges.same("3 of 8", drum.wheel(2, 2), 3);
        drum.puts(0, 0);
        edges.same("1 of 5, not 4 again", drum.wheel(0, 2), 1);
    }

    private static void p16_onABareWheel() {
        SlitDrum drum = Checks.drum("wp7r5", "abc");
        edges.same("puts(0, 0)", drum.puts(0, 0), 3);
        edges.wheelIs(drum, 0, 1, 0, 0, 0, 3, 0);
    }

    private static void p16_theLastOfSixStrips() {
        SlitDrum drum = Checks.drum("w", "a", "b", "c", "d", "e", "fgh");
        edges.same("puts(0, 5)", drum.puts(0, 5), 3);
        edges.same("shows", drum.wheel(0, 5), 5);
    }

    // ---- 17: oil

    private static void p17_noLantern() {
        for (int n : new int[] {1, 0, 31}) {
            edges.refused("oil(" + n + ")", SlitDrum::new, drum -> drum.oil(n), NONE, NO_SUCH);
        }
    }

    private static void p17_outOfBounds() {
        for (int n : new int[] {0, 31, -1, Edges.LEAST, Edges.MOST}) {
            edges.refused("oil(" + n + ")", drum -> drum.oil(n), NONE, OUT);
        }
    }

    private static void p17_outOfBoundsIsAheadOfTooFewCoins() {
        edges.refused("oil(31)", made("sk0;w"), drum -> drum.oil(31), NONE, OUT);
        edges.refused("oil(0)", made("sk0;w"), drum -> drum.oil(0), NONE, OUT);
    }

    private static void p17_halfAsManyCoinsCutUp() {
        int[] n = {1, 2, 3, 4, 29, 30};
        int[] price = {1, 1, 2, 2, 15, 15};
        for (int i = 0; i < n.length; i++) {
            SlitDrum drum = Checks.drum("so0k" + price[i] + ";w");
            edges.same("oil(" + n[i] + ")", drum.oil(n[i]), n[i]);
            edges.same("coins", drum.rule(2), 0);
            edges.same("rule(1)", drum.rule(1), n[i]);
            edges.same("an act", drum.count(9), 1);
            int many = n[i];
            edges.refused("a coin less", made("so0k" + (price[i] - 1) + ";w"), poor -> poor.oil(many), NONE, DEAR);
        }
    }

    private static void p17_nineHundredAndNinetyNineAtMost() {
        edges.same("969 and 30", withOil(969).oil(30), 999);
        edges.same("998 and 1", withOil(998).oil(1), 999);
    }

    private static void p17_aboveNineHundredAndNinetyNine() {
        edges.refused("970 and 30", () -> withOil(970), drum -> drum.oil(30), NONE, DEAR);
        edges.refused("999 and 1", () -> withOil(999), drum -> drum.oil(1), NONE, DEAR);
    }

    // ---- 18: give

    private static void p18_noLantern() {
        for (int n : new int[] {1, 0, 51}) {
            edges.refused("give(" + n + ")", SlitDrum::new, drum -> drum.give(n), NONE, NO_SUCH);
        }
    }

    private static void p18_outOfBounds() {
        for (int n : new int[] {0, 51, -1, Edges.LEAST, Edges.MOST}) {
            edges.refused("give(" + n + ")", drum -> drum.give(n), NONE, OUT);
        }
    }

    private static void p18_theLeastAndTheMost() {
        SlitDrum drum = Checks.drum("sk0;w");
        edges.same("give(1)", drum.give(1), 1);
        edges.same("give(50)", drum.give(50), 51);
        edges.same("rule(2)", drum.rule(2), 51);
        edges.same("two acts", drum.count(9), 2);
    }

    private static void p18_nineHundredAndNinetyNineAtMost() {
        edges.same("949 and 50", withCoins(949, ";w").give(50), 999);
        edges.same("998 and 1", withCoins(998, ";w").give(1), 999);
    }

    private static void p18_aboveNineHundredAndNinetyNine() {
        edges.refused("950 and 50", () -> withCoins(950, ";w"), drum -> drum.give(50), NONE, DEAR);
        edges.refused("999 and 1", () -> withCoins(999, ";w"), drum -> drum.give(1), NONE, DEAR);
    }

    private static void p18_outOfBoundsIsAheadOfAbove() {
        edges.refused("give(51)", () -> withCoins(999, ";w"), drum -> drum.give(51), NONE, OUT);
        edges.refused("give(0)", () -> withCoins(999, ";w"), drum -> drum.give(0), NONE, OUT);
    }
}
