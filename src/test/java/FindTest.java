/** Promises 36 to 42: noted, fits, ask, game, rests, odds, shares. */
public final class FindTest {
    private static final Checks checks = new Checks("FindTest");

    public static void main(String[] args) {
        noting();
        fitting();
        asking();
        gaming();
        resting();
        odds();
        oddsOfEachPart();
        sharing();
        checks.end();
    }

    private static void noting() {
        SlitDrum drum = new SlitDrum();
        checks.same("tick", drum.noted(-1, 0, true), -1);
        checks.same("tick", drum.noted(100, 0, true), -1);
        checks.same("picture", drum.noted(0, -1, true), -1);
        checks.same("picture", drum.noted(0, 27, true), -1);
        for (int i = 1; i <= 10; i++) {
            checks.same("noted", drum.noted(99, 26, false), i);
        }
        checks.same("there are ten", drum.noted(0, 0, true), -1);
        checks.same("ten", drum.count(7), 10);
        Checks.tell(drum, 0, "w");
        checks.same("gone by a lantern", drum.count(7), 0);
    }

    private static void fitting() {
        SlitDrum drum = new SlitDrum();
        checks.same("no strips", drum.fits(-1), 0);
        checks.same("no strips", drum.fits(0), -1);
        Checks.tell(drum, 2, "abc");
        Checks.tell(drum, 2, "9a7.");
        checks.same("all", drum.fits(-1), 190);
        checks.same("first", drum.fits(0), 0);
        checks.same("second", drum.fits(1), 1);
        checks.same("fourth", drum.fits(3), 100);
        checks.same("the next strip", drum.fits(30), 1000);
        checks.same("last", drum.fits(189), 1915);
        checks.same("no more", drum.fits(190), -1);
        checks.same("below", drum.fits(-2), -1);
        drum.noted(0, 2, true);
        checks.same("c at first", drum.fits(-1), 10);
        checks.same("c at first", drum.fits(0), 2);
        drum.noted(1, 0, true);
        checks.same("speeds 1, 4, 7", drum.fits(-1), 3);
        checks.same("speed 7", drum.fits(2), 702);
        drum.noted(99, 2, false);
        checks.same("not so", drum.fits(-1), 0);
        checks.same("nothing", drum.fits(0), -1);
        checks.same("ask of nothing", drum.ask(), -1);
    }

    private static void asking() {
        SlitDrum drum = new SlitDrum();
        checks.same("nothing fits", drum.ask(), -1);
        Checks.tell(drum, 2, "ab");
        checks.same("all alike well", drum.ask(), 0);
        drum.noted(0, 0, true);
        checks.same("a speed that is odd or not", drum.ask(), 1);
        Checks.tell(drum, 2, "..a");
        drum.noted(1, 0, true);
        // strip 0: speeds 0, 2, 4, 6, 8 show a always; strip 1: 0, 3, 6, 9 from place 2 too.
        checks.same("no tick tells them apart", drum.ask(), 0);
        checks.same("nine", drum.fits(-1), 9);
        askingLate();
    }

    private static void askingLate() {
        SlitDrum drum = new SlitDrum();
        PlainDrum plain = new PlainDrum();
        for (String strip : "c.abcc.abc.da.d e.ebccecaccdegc b.b.caccd.d..ca hbbfehabehgabcg.".split(" ")) {
            Checks.tell(drum, 2, strip);
            plain.strips.add(strip.replace('.', '{'));
        }
        for (int[] note : new int[][] {{27, 0}, {74, 0}, {88, 1}, {41, 1}}) {
            drum.noted(note[0], note[1], false);
            plain.noted(note[0], note[1], false);
        }
        checks.same("the last tick there is", plain.ask(), 60);
        checks.same("the last tick there is", drum.ask(), 60);
    }

    private static void gaming() {
        SlitDrum drum = Checks.drum("wp1;wr1", "abcdefgh", "a.b.");
        checks.same("looker 1 1", drum.game(0, 1, 1, 0), 11);
        checks.same("turner 1 1", drum.game(0, 1, 1, 1), 4);
        checks.same("looker 4 2", drum.game(0, 4, 2, 0), -2);
        checks.same("turner 4 2", drum.game(0, 4, 2, 1), 10);
        checks.same("looker 2 2", drum.game(0, 2, 2, 0), 2);
        checks.same("looker 3 1", drum.game(0, 3, 1, 0), 9);
        checks.same("blank ones not", drum.game(1, 1, 1, 0), 3);
        checks.same("turner", drum.game(1, 1, 1, 1), 8);
        checks.same("y 0", drum.game(1, 2, 0, 1), 8);
        SlitDrum way = Checks.drum("wp2;wr1", "abcdefghijklmnop", "z.");
        checks.same("six of sixteen", way.game(0, 1, 1, 0), 11);
        checks.same("z counts", way.game(1, 1, 1, 0), 1);
        checks.same("forward", Checks.drum("w", "abcdef9.").game(0, 1, 1, 1), 4);
        int hidden = -1000000;
        checks.same("wheel", drum.game(2, 1, 1, 0), hidden);
        checks.same("x 0", drum.game(0, 0, 1, 0), hidden);
        checks.same("x 5", drum.game(0, 5, 1, 0), hidden);
        checks.same("y -1", drum.game(0, 1, -1, 0), hidden);
        checks.same("y 4", drum.game(0, 1, 4, 0), hidden);
        checks.same("what 2", drum.game(0, 1, 1, 2), hidden);
        checks.same("what -1", drum.game(0, 1, 1, -1), hidden);
    }

    private static void resting() {
        for (String strip : new String[] {"a", "ab", "abc", "abcd", "a.b.", "abcdef", "3a2b.c", "abcdefghijklmnop", "."}) {
            SlitDrum drum = Checks.drum("wp1", strip);
            int found = 0;
            for (int x = 1; x <= 4; x++) {
                for (int y = 0; y <= 3; y++) {
                    boolean rest = true;
                    for (int k = 0; k < 4; k++) {
                        rest &= drum.game(0, k + 1, y, 0) <= drum.game(0, x, y, 0);
                        rest &= drum.game(0, x, k, 1) <= drum.game(0, x, y, 1);
                    }
                    if (rest) {
                        checks.same("rest of " + strip, drum.rests(0, found), 10 * x + y);
                        found++;
                    }
                }
            }
            checks.same("how many of " + strip, drum.rests(0, -1), found);
            checks.same("no more", drum.rests(0, found), -1);
            checks.same("below", drum.rests(0, -2), -1);
            checks.same("no wheel", drum.rests(1, -1), -1);
        }
        SlitDrum two = Checks.drum("w", "babb.b.ac.dad");
        checks.same("two", two.rests(0, -1), 2);
        checks.same("x 2", two.rests(0, 0), 23);
        checks.same("x 4", two.rests(0, 1), 43);
        checks.same("bare: y 3 alone", Checks.drum("wr5").rests(0, 0), 13);
    }

    private static void odds() {
        SlitDrum drum = Checks.drum("sf3o0;wv1;wv1b1p1", "abcdefghij");
        checks.same("0 ticks", drum.odds(0, 0, 50, 0), 1000000000);
        checks.same("0 ticks", drum.odds(0, 0, 50, 1), 0);
        checks.same("all slip", drum.odds(0, 8, 100, 0), 1000000000);
        checks.same("none slips", drum.odds(0, 8, 0, 8), 1000000000);
        checks.same("one of three", drum.odds(0, 3, 10, 2), 243000000);
        checks.same("back", drum.odds(1, 2, 25, 9), 562500000);
        checks.same("cut", drum.odds(0, 5, 1, 0), 0);
        checks.same("cut", drum.odds(0, 5, 3, 0), 24);
        checks.same("cut", drum.odds(0, 5, 3, 1), 3926);
        int all = 0;
        for (int picture = 0; picture <= 26; picture++) {
            all += drum.odds(0, 8, 37, picture);
        }
        checks.same("all parts", all, 1000000000);
        drum.law(Checks.tell(drum, 1, "y:t=1?2;y:p"));
        checks.same("by the law", drum.odds(0, 2, 50, 2), 500000000);
        checks.same("no wheel", drum.odds(2, 1, 1, 1), -1);
        checks.same("n", drum.odds(0, -1, 1, 1), -1);
        checks.same("n", drum.odds(0, 9, 1, 1), -1);
        checks.same("chance", drum.odds(0, 1, -1, 1), -1);
        checks.same("chance", drum.odds(0, 1, 101, 1), -1);
        checks.same("picture", drum.odds(0, 1, 1, -1), -1);
        checks.same("picture", drum.odds(0, 1, 1, 27), -1);
    }

    /** Parts that come to one place stay apart; joined ahead of the next cut they would give other answers. */
    private static void oddsOfEachPart() {
        SlitDrum two = Checks.drum("w", "ab");
        checks.same("by turns", two.odds(0, 5, 1, 0), 48039608);
        checks.same("by turns", two.odds(0, 8, 37, 0), 500010440);
        checks.same("by turns", two.odds(0, 8, 37, 1), 499989560);
        SlitDrum ten = Checks.drum("w", "abcdefghij");
        int[] due = {0, 46, 9804, 970296, 48029804, 950990050, 0};
        for (int picture = 0; picture < due.length; picture++) {
            checks.same("slips in any order", ten.odds(0, 5, 1, picture), due[picture]);
        }
        SlitDrum held = Checks.drum("wv9", "abc");
        held.law(Checks.tell(held, 1, "y:p+1"));
        checks.same("by a law of places", held.odds(0, 8, 99, 0), 925381489);
        checks.same("by a law of places", held.odds(0, 8, 99, 1), 74618511);
        held.law(Checks.tell(held, 1, "y:t<4?0;y:1"));
        checks.same("apart by slips at rest", held.odds(0, 8, 1, 0), 38811988);
        checks.same("apart by slips at rest", held.odds(0, 8, 1, 1), 960599981);
        checks.same("apart by slips at rest", held.odds(0, 8, 1, 2), 588031);
        checks.same("nothing has moved", held.wheel(0, 2), 0);
    }

    private static void sharing() {
        SlitDrum drum = Checks.drum("wv3;wv0;wv4b1", "ab");
        checks.same("3 of 7", drum.shares(0, 10), 4);
        checks.same("0 of 7", drum.shares(1, 999), 0);
        checks.same("4 of 7", drum.shares(2, 999), 570);
        checks.same("of 0", drum.shares(2, 0), 0);
        checks.same("wheel", drum.shares(3, 1), -1);
        checks.same("c", drum.shares(0, -1), -1);
        checks.same("c", drum.shares(0, 1000), -1);
        checks.same("none moves", Checks.drum("wv0;wv0").shares(0, 9), 0);
    }
}
