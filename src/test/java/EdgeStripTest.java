/** Edges of promises 30 to 35: period, least, alike, mirror, rows, kinds. */
public final class EdgeStripTest {
    private static final Edges edges = new Edges("EdgeStripTest");
    private static final int NONE = Edges.NONE;
    private static final int[] NO_STRIPS = {-1, 3, 5, 6, Edges.LEAST, Edges.MOST};

    public static void main(String[] args) {
        edges.run(EdgeStripTest.class);
    }

    private static SlitDrum with(String... strips) {
        SlitDrum drum = new SlitDrum();
        for (String strip : strips) {
            Checks.tell(drum, Checks.STRIP, strip);
        }
        return drum;
    }

    // ---- 30: period

    private static void p30_noSuchStrip() {
        for (int strip : NO_STRIPS) {
            edges.refused("period(" + strip + ")", drum -> drum.period(strip), NONE, Edges.NO_STATUS);
        }
        edges.same("no strips", new SlitDrum().period(0), NONE);
    }

    private static void p30_oneAtLeast() {
        SlitDrum drum = with("a", ".", "9a7a", "2.");
        for (int strip = 0; strip < 4; strip++) {
            edges.same("period(" + strip + ")", drum.period(strip), 1);
        }
    }

    private static void p30_asManyAsItHasAtMost() {
        SlitDrum drum = with("ab", "abcdefghijklmnop", "9a6ab", "aab");
        edges.same("two", drum.period(0), 2);
        edges.same("sixteen", drum.period(1), 16);
        edges.same("one other of sixteen", drum.period(2), 16);
        edges.same("three", drum.period(3), 3);
    }

    private static void p30_theLeastOfSeveral() {
        SlitDrum drum = with("abababababab", "abcabc", "abcdabcdabcdabcd", "aabaab", "abaab");
        edges.same("2, 4 and 6", drum.period(0), 2);
        edges.same("3", drum.period(1), 3);
        edges.same("4 and 8", drum.period(2), 4);
        edges.same("3", drum.period(3), 3);
        edges.same("round, none but all", drum.period(4), 5);
    }

    // ---- 31: least

    private static void p31_noSuchStrip() {
        for (int strip : NO_STRIPS) {
            edges.refused("least(" + strip + ")", drum -> drum.least(strip), NONE, Edges.NO_STATUS);
        }
        edges.same("no strips", new SlitDrum().least(0), NONE);
    }

    private static void p31_ofSeveralTheLeast() {
        SlitDrum drum = with("a", "aaaa", "baba", "cabcab");
        edges.same("one", drum.least(0), 0);
        edges.same("all alike", drum.least(1), 0);
        edges.same("1 and 3", drum.least(2), 1);
        edges.same("1 and 4", drum.least(3), 1);
    }

    private static void p31_blankIsBehindZ() {
        SlitDrum drum = with(".z", "a.az", "..", "z.");
        edges.same(".z", drum.least(0), 1);
        edges.same("a.az", drum.least(1), 2);
        edges.same("blank ones", drum.least(2), 0);
        edges.same("z.", drum.least(3), 0);
    }

    private static void p31_roundToItsEnd() {
        SlitDrum drum = with("bcdefghijklmnopa", "abaa", "aabaaab", "abaac");
        edges.same("the last one", drum.least(0), 15);
        edges.same("round", drum.least(1), 2);
        edges.same("round", drum.least(2), 3);
        edges.same("aacab is ahead of abaac", drum.least(3), 2);
    }

    // ---- 32: alike

    private static void p32_noSuchStrips() {
        for (int strip : NO_STRIPS) {
            edges.refused("alike(" + strip + ", 0)", drum -> drum.alike(strip, 0, false), NONE, Edges.NO_STATUS);
            edges.refused("alike(0, " + strip + ")", drum -> drum.alike(0, strip, true), NONE, Edges.NO_STATUS);
            edges.same("both", Edges.rich().alike(strip, strip, false), NONE);
        }
    }

    private static void p32_byNone() {
        SlitDrum drum = with("abc", "acb", "abd", "a.c");
        edges.same("abc, acb", drum.alike(0, 1, false), NONE);
        edges.same("abc, abd", drum.alike(0, 2, false), NONE);
        edges.same("abc, abd over", drum.alike(0, 2, true), NONE);
        edges.same("abc, a.c", drum.alike(0, 3, false), NONE);
        edges.same("abc, abc over", drum.alike(0, 0, true), NONE);
    }

    private static void p32_oneOtherPictureAnywhere() {
        SlitDrum drum = with("abcd", "zbcd", "azcd", "abzd", "abcz");
        for (int other = 1; other <= 4; other++) {
            edges.same("alike(0, " + other + ")", drum.alike(0, other, false), NONE);
            edges.same("alike(" + other + ", 0) over", drum.alike(other, 0, true), NONE);
        }
    }

    private static void p32_ofUnlikeLengthsByNone() {
        SlitDrum drum = with("ab", "abab", "a", "aa");
        edges.same("ab, abab", drum.alike(0, 1, false), NONE);
        edges.same("abab, ab", drum.alike(1, 0, false), NONE);
        edges.same("a, aa", drum.alike(2, 3, false), NONE);
        edges.same("aa, a over", drum.alike(3, 2, true), NONE);
    }

    private static void p32_oneWithItself() {
        SlitDrum drum = with("abc", "aab", "a");
        edges.same("abc", drum.alike(0, 0, false), 0);
        edges.same("aab over", drum.alike(1, 1, true), 1);
        edges.same("a over", drum.alike(2, 2, true), 0);
    }

    private static void p32_theLeastTurning() {
        SlitDrum drum = with("abab", "baba", "aaaa");
        edges.same("1 and 3", drum.alike(0, 1, false), 1);
        edges.same("0 and 2", drum.alike(1, 1, false), 0);
        edges.same("over", drum.alike(0, 1, true), 0);
        edges.same("all", drum.alike(2, 2, true), 0);
    }

    private static void p32_theLastTurning() {
        SlitDrum drum = with("abcdefghijklmnop", "pabcdefghijklmno", "aponmlkjihgfedcb", "ponmlkjihgfedcba");
        edges.same("by 15", drum.alike(0, 1, false), 15);
        edges.same("by 1", drum.alike(1, 0, false), 1);
        edges.same("over, by 15", drum.alike(0, 2, true), 15);
        edges.same("over, by 0", drum.alike(0, 3, true), 0);
    }

    private static void p32_theFirstIsTurnedOver() {
        SlitDrum drum = with("abcd", "cbad", "badc");
        edges.same("dcba by 1 is cbad", drum.alike(0, 1, true), 1);
        edges.same("dabc by 1 is abcd", drum.alike(1, 0, true), 1);
        edges.same("dcba by 2 is badc", drum.alike(0, 2, true), 2);
        edges.same("cdab by 2 is abcd", drum.alike(2, 0, true), 2);
    }

    // ---- 33: mirror

    private static void p33_noSuchStrip() {
        for (int strip : NO_STRIPS) {
            edges.refused("mirror(" + strip + ")", drum -> drum.mirror(strip), NONE, Edges.NO_STATUS);
        }
        edges.same("no strips", new SlitDrum().mirror(0), NONE);
    }

    private static void p33_oneAndTwoAlwaysAre() {
        SlitDrum drum = with("a", "ab", ".z", "aa");
        for (int strip = 0; strip < 4; strip++) {
            edges.same("mirror(" + strip + ")", drum.mirror(strip), 1);
        }
    }

    private static void p33_threeUnlikeAreNot() {
        SlitDrum drum = with("abc", "aab", "ab.", "abcb", "aabc", "aabbcc");
        int[] due = {0, 1, 0, 1, 0, 0};
        for (int strip = 0; strip < due.length; strip++) {
            edges.same("mirror(" + strip + ")", drum.mirror(strip), due[strip]);
        }
    }

    private static void p33_ofSixteen() {
        SlitDrum drum = with("abcdefghihgfedcb", "abcdefghijklmnop", "9a5a..", "9a4a.a.", "9a5a.b");
        edges.same("there and back", drum.mirror(0), 1);
        edges.same("all unlike", drum.mirror(1), 0);
        edges.same("two others", drum.mirror(2), 1);
        edges.same("two others apart", drum.mirror(3), 1);
        edges.same("two unlike others", drum.mirror(4), 0);
    }

    // ---- 34: rows

    private static void p34_noSuchStrip() {
        for (int strip : NO_STRIPS) {
            edges.refused("rows(" + strip + ", 1)", drum -> drum.rows(strip, 1), NONE, Edges.NO_STATUS);
        }
        edges.same("no strips", new SlitDrum().rows(0, 1), NONE);
    }

    private static void p34_outOfBounds() {
        for (int m : new int[] {0, 9, -1, Edges.LEAST, Edges.MOST}) {
            edges.refused("rows(0, " + m + ")", drum -> drum.rows(0, m), NONE, Edges.NO_STATUS);
        }
    }

    private static void p34_ofOneAndOfEight() {
        SlitDrum drum = with("abcdefghijklmnop", "9a6ab", "8a8b", "aab.");
        edges.same("sixteen of 1", drum.rows(0, 1), 16);
        edges.same("sixteen of 8", drum.rows(0, 8), 16);
        edges.same("a and b", drum.rows(1, 1), 2);
        edges.same("b at each of 8, or none", drum.rows(1, 8), 9);
        edges.same("eight of each, of 7", drum.rows(2, 7), 14);
        edges.same("eight of each, of 8", drum.rows(2, 8), 16);
        edges.same("a, b and blank", drum.rows(3, 1), 3);
    }

    private static void p34_roundAndRound() {
        SlitDrum drum = with("a", "ab", "abc", "aba");
        for (int m = 1; m <= 8; m++) {
            edges.same("a, " + m, drum.rows(0, m), 1);
            edges.same("ab, " + m, drum.rows(1, m), 2);
            edges.same("abc, " + m, drum.rows(2, m), 3);
        }
        edges.same("aba of 2: ab, ba, aa", drum.rows(3, 2), 3);
        edges.same("aba of 1", drum.rows(3, 1), 2);
    }

    // ---- 35: kinds

    private static void p35_outOfBounds() {
        for (int n : new int[] {0, 13, -1, Edges.LEAST, Edges.MOST}) {
            edges.refused("kinds(" + n + ", 2)", drum -> drum.kinds(n, 2, false), NONE, Edges.NO_STATUS);
            edges.refused("kinds(" + n + ", 2) over", drum -> drum.kinds(n, 2, true), NONE, Edges.NO_STATUS);
        }
        for (int q : new int[] {0, 7, -1, Edges.LEAST, Edges.MOST}) {
            edges.refused("kinds(2, " + q + ")", drum -> drum.kinds(2, q, false), NONE, Edges.NO_STATUS);
            edges.refused("kinds(2, " + q + ") over", drum -> drum.kinds(2, q, true), NONE, Edges.NO_STATUS);
        }
    }

    private static void p35_ofOnePicture() {
        for (int q = 1; q <= 6; q++) {
            edges.same("kinds(1, " + q + ")", new SlitDrum().kinds(1, q, false), q);
            edges.same("kinds(1, " + q + ") over", new SlitDrum().kinds(1, q, true), q);
        }
    }

    private static void p35_ofOneLetter() {
        for (int n = 1; n <= 12; n++) {
            edges.same("kinds(" + n + ", 1)", new SlitDrum().kinds(n, 1, false), 1);
            edges.same("kinds(" + n + ", 1) over", new SlitDrum().kinds(n, 1, true), 1);
        }
    }

    private static void p35_ofTwelveAndSix() {
        SlitDrum drum = new SlitDrum();
        edges.same("kinds(12, 6)", drum.kinds(12, 6, false), 181402676);
        edges.same("kinds(12, 6) over", drum.kinds(12, 6, true), 90782986);
        edges.same("kinds(12, 2)", drum.kinds(12, 2, false), 352);
        edges.same("kinds(12, 2) over", drum.kinds(12, 2, true), 224);
        edges.same("kinds(11, 6) over", drum.kinds(11, 6, true), 16514106);
    }

    private static void p35_turningOverCountsFromSixOfTwoOn() {
        SlitDrum drum = new SlitDrum();
        int[] turned = {2, 3, 4, 6, 8, 14, 20, 36};
        int[] over = {2, 3, 4, 6, 8, 13, 18, 30};
        for (int n = 1; n <= turned.length; n++) {
            edges.same("kinds(" + n + ", 2)", drum.kinds(n, 2, false), turned[n - 1]);
            edges.same("kinds(" + n + ", 2) over", drum.kinds(n, 2, true), over[n - 1]);
        }
    }
}
