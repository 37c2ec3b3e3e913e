/** Promises 19, 21, 22, 44 and 45: years, undo, log, image, back. */
public final class PastTest {
    private static final Checks checks = new Checks("PastTest");

    public static void main(String[] args) {
        years();
        yearsRefused();
        undoing();
        undoingTheLog();
        logging();
        imaging();
        checks.end();
    }

    private static long x;

    private static int draw(int j) {
        x = x * 6364136223846793005L + 1442695040888963407L;
        return (int) ((x >>> 33) % j);
    }

    private static void years() {
        for (long seed : new long[] {0, 1, -1, 77, Long.MAX_VALUE, Long.MIN_VALUE, 123456789012345L}) {
            for (int touch = 0; touch <= 9; touch += 3) {
                SlitDrum drum = Checks.drum("so0k0;wv1;wv2p1;wv3", "abcde", "ab");
                drum.touch(touch);
                x = seed;
                int[] speeds = {1, 2, 3};
                int[] places = {0, 1, 0};
                for (int i = 0; i < 50; i++) {
                    if (draw(10) < touch) {
                        int w = draw(3);
                        places[w] = (places[w] + draw(9) + 1) % 5;
                    }
                    if (draw(10) < 2) {
                        int w = draw(3);
                        speeds[w] = draw(10);
                    }
                    for (int w = 0; w < 3; w++) {
                        places[w] = (places[w] + speeds[w]) % 5;
                    }
                }
                checks.same("years", drum.years(50, seed), 50);
                for (int w = 0; w < 3; w++) {
                    checks.same("speed", drum.wheel(w, 0), speeds[w]);
                    checks.same("place", drum.wheel(w, 2), places[w]);
                }
                checks.same("oil comes and goes", drum.rule(1), 0);
                checks.same("acts", drum.count(9), 40);
            }
        }
    }

    private static void yearsRefused() {
        SlitDrum drum = new SlitDrum();
        checks.same("no lantern", drum.years(1, 1), -1);
        Checks.tell(drum, 0, "w");
        checks.same("0", drum.years(0, 1), -1);
        checks.same("61", drum.years(61, 1), -1);
        checks.same("60", drum.years(60, 1), 60);
        for (int what = 0; what < 5; what++) {
            checks.same("no status", drum.status(what), 0);
        }
    }

    private static void undoing() {
        SlitDrum drum = Checks.drum("sf1o20k20;wv1;wv1", "abcd", "ab");
        checks.same("none", drum.undo(), -1);
        drum.flash(3);
        drum.speed(0, 7);
        drum.about(1);
        drum.push(0, 3);
        drum.puts(1, 1);
        drum.oil(5);
        drum.give(9);
        drum.ticks(2);
        drum.flash(3);
        drum.law(-1);
        drum.touch(5);
        checks.same("acts", drum.count(9), 9);
        for (int left = 8; left >= 0; left--) {
            checks.same("undo", drum.undo(), left);
        }
        checks.same("none more", drum.undo(), -1);
        int[] due = {1, 0, 0, 0, 4, 0};
        for (int what = 0; what < 6; what++) {
            checks.same("wheel 0", drum.wheel(0, what), due[what]);
            checks.same("wheel 1", drum.wheel(1, what), due[what]);
        }
        checks.same("flash", drum.rule(0), 1);
        checks.same("oil", drum.rule(1), 20);
        checks.same("coins", drum.rule(2), 20);
        checks.same("tick", drum.count(5), 0);
        checks.same("touch stays", drum.count(6), 5);
        checks.same("status is not undone", drum.status(2), 1);
    }

    private static void undoingTheLog() {
        SlitDrum drum = Checks.drum("sf1o0k0;wv1", "abcdefg");
        drum.years(60, 3);
        drum.years(60, 4);
        int[] seen = new int[60];
        for (int i = 0; i < 60; i++) {
            seen[i] = drum.log(i, 0);
        }
        drum.years(40, 5);
        for (int i = 0; i < 40; i++) {
            drum.undo();
        }
        checks.same("none more", drum.undo(), -1);
        checks.same("rows", drum.count(8), 60);
        for (int i = 0; i < 60; i++) {
            checks.same("the row is there again", drum.log(i, 0), seen[i]);
        }
    }

    private static void logging() {
        SlitDrum drum = Checks.drum("sf3o99;wv1;wr5;wv2b1", "abcd");
        checks.same("none", drum.log(0, 0), -1);
        drum.ticks(9);
        int[][] due = {{1, 26, 2, 26}, {2, 26, 0, 26}, {3, 26, 2, 26}};
        for (int i = 0; i < 3; i++) {
            for (int w = 0; w < 4; w++) {
                checks.same("log(" + i + ", " + w + ")", drum.log(i, w), due[i][w]);
            }
        }
        checks.same("log(3, 0)", drum.log(3, 0), -1);
        checks.same("log(-1, 0)", drum.log(-1, 0), -1);
        checks.same("log(0, 4)", drum.log(0, 4), -1);
        checks.same("log(0, -1)", drum.log(0, -1), -1);
        drum.flash(1);
        drum.ticks(60);
        checks.same("sixty", drum.count(8), 60);
        checks.same("log(59, 0)", drum.log(59, 0), 10 % 4);
        checks.same("log(60, 0)", drum.log(60, 0), -1);
    }

    private static void imaging() {
        SlitDrum drum = new SlitDrum();
        checks.same("no lantern", drum.image(), -1);
        checks.same("no image", drum.back(), -1);
        Checks.tell(drum, 2, "abcd");
        Checks.tell(drum, 2, "ab");
        Checks.tell(drum, 0, "sf1;wv1");
        checks.same("no image of it", drum.back(), -1);
        drum.ticks(2);
        checks.same("image", drum.image(), 2);
        drum.ticks(5);
        drum.flash(9);
        drum.puts(0, 1);
        drum.about(0);
        drum.speed(0, 4);
        drum.oil(3);
        drum.noted(1, 1, true);
        checks.same("back", drum.back(), 2);
        int[] due = {1, 0, 2, 0, 4, 2};
        for (int what = 0; what < 6; what++) {
            checks.same("wheel", drum.wheel(0, what), due[what]);
        }
        checks.same("flash", drum.rule(0), 1);
        checks.same("oil", drum.rule(1), 38);
        checks.same("coins", drum.rule(2), 20);
        checks.same("rows", drum.count(8), 2);
        checks.same("row", drum.log(0, 0), 2);
        checks.same("no undoing", drum.count(9), 0);
        checks.same("no undoing", drum.undo(), -1);
        checks.same("noted stays", drum.count(7), 1);
        drum.ticks(3);
        checks.same("undo behind it", drum.undo(), 2);
        checks.same("back once more", drum.back(), 2);
        drum.ticks(1);
        checks.same("another image", drum.image(), 3);
        drum.ticks(1);
        checks.same("back to that", drum.back(), 3);
        Checks.tell(drum, 0, "w");
        checks.same("not of this lantern", drum.back(), -1);
    }
}
