/** Promise 43: most. */
public final class MostTest {
    private static final Checks checks = new Checks("MostTest");

    public static void main(String[] args) {
        for (int what = -1; what <= 10; what++) {
            SlitDrum none = new SlitDrum();
            Checks.tell(none, 2, "ab");
            checks.same("no lantern", none.most(what), -1);
        }
        mosts("sf5;wv2p1;wv7b1p3r1;wv7p1;wr5b1", new int[] {1, 1, 1, 1 << 1 | 1 << 4, 1, 10, 8, 8, 3021, 5},
                "ab.", "bcdeb");
        mosts("sf1;wv0;wv0", new int[] {0, 0, -1, 0, 0, 0, 3, 3, 1, 1});
        mosts("w", new int[] {0, 0, -1, 0, 0, 0, 0, 1, 0, 6}, ".");
        mosts("wp3;wp2;wp1;wp0", new int[] {0, 0, 0, 15, 0, 0, 0, 0, 3210, 6}, "abcd");
        mosts("w;w;w;w", new int[] {0, 0, 0, 1, 6, 0, 0, 0, 123, 6}, "2a2b");
        mosts("wr1;wr1p1;w;wp1", new int[] {0, 0, 2, 7, 1, 0, 0, 0, 213, 6}, "bc", "ac");
        stillByLaw();
        toFlash();
        checks.end();
    }

    private static void mosts(String lantern, int[] due, String... strips) {
        SlitDrum drum = Checks.drum(lantern, strips);
        for (int what = 0; what < due.length; what++) {
            checks.same(lantern + " most(" + what + ")", drum.most(what), due[what]);
        }
        checks.same("most(10)", drum.most(10), -1);
        checks.same("most(-1)", drum.most(-1), -1);
    }

    private static void stillByLaw() {
        SlitDrum drum = Checks.drum("so0;wv3;wv1p1;wv4", "abcd");
        checks.same("oil does not matter", drum.most(7), 4);
        drum.law(Checks.tell(drum, 1, "y:p"));
        checks.same("by the law", drum.most(7), 5);
        checks.same("commonest counts strips", Checks.drum("w", "9z", "ya", "a").most(2), 0);
    }

    private static void toFlash() {
        SlitDrum drum = Checks.drum("sf4;w", "ab");
        drum.ticks(1);
        checks.same("three", drum.most(9), 3);
        drum.ticks(3);
        checks.same("just now", drum.most(9), 4);
        drum.flash(3);
        checks.same("another flash", drum.most(9), 2);
    }
}
