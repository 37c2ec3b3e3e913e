/** Promises 6 to 10 and 46: rule, wheel, picture, law, touch, count. */
public final class StateTest {
    private static final Checks checks = new Checks("StateTest");

    public static void main(String[] args) {
        SlitDrum drum = Checks.drum("sf9o8k7;wv3b1p5r0;wr4", "ab2.", "3z");
        checks.same("rule(0)", drum.rule(0), 9);
        checks.same("rule(1)", drum.rule(1), 8);
        checks.same("rule(2)", drum.rule(2), 7);
        checks.same("rule(3)", drum.rule(3), -1);
        checks.same("rule(-1)", drum.rule(-1), -1);
        int[][] due = {{3, 1, 1, 0, 4, 1}, {1, 0, 0, 4, 1, 26}};
        for (int w = 0; w < 2; w++) {
            for (int what = 0; what < 6; what++) {
                checks.same("wheel(" + w + ", " + what + ")", drum.wheel(w, what), due[w][what]);
            }
        }
        checks.throwsNoSuch("wheel(2, 0)", drum, 2, 0);
        checks.throwsNoSuch("wheel(-1, 0)", drum, -1, 0);
        checks.throwsNoSuch("wheel(0, 6)", drum, 0, 6);
        checks.throwsNoSuch("wheel(0, -1)", drum, 0, -1);
        pictures(drum);
        laws();
        letters();
        touches(drum);
        counts();
        checks.end();
    }

    private static void pictures(SlitDrum drum) {
        checks.same("how many", drum.picture(0, -1), 4);
        checks.same("how many", drum.picture(1, -1), 3);
        int[] due = {0, 1, 26, 26};
        for (int i = 0; i < due.length; i++) {
            checks.same("picture(0, " + i + ")", drum.picture(0, i), due[i]);
        }
        checks.same("picture(1, 2)", drum.picture(1, 2), 25);
        checks.same("picture(0, 4)", drum.picture(0, 4), -1);
        checks.same("picture(0, -2)", drum.picture(0, -2), -1);
        checks.same("picture(2, 0)", drum.picture(2, 0), -1);
        checks.same("picture(-1, -1)", drum.picture(-1, -1), -1);
    }

    private static void laws() {
        SlitDrum drum = new SlitDrum();
        checks.same("law(-1), none", drum.law(-1), true);
        checks.same("law(0), none", drum.law(0), false);
        Checks.tell(drum, 1, "y:3");
        checks.same("law(0)", drum.law(0), true);
        checks.same("law(0) again", drum.law(0), true);
        checks.same("law(1)", drum.law(1), false);
        checks.same("law(-2)", drum.law(-2), false);
        checks.same("holds", drum.count(4), 0);
        checks.same("law(-1)", drum.law(-1), true);
        checks.same("none holds", drum.count(4), -1);
        worths();
    }

    /** The place on a strip of sixteen, from place 0, behind one tick by a law. */
    private static void worth(String law, int by) {
        SlitDrum drum = Checks.drum("sf7o9;wv3b1", "16a".substring(1) + "9b.");
        drum.law(Checks.tell(drum, 1, law));
        drum.ticks(1);
        checks.same(law, drum.wheel(0, 2), by < 0 ? by + 16 : by);
    }

    private static void worths() {
        worth("y:5", 5);
        worth("y:v", -3);
        worth("y:p+l", 0 + 15);
        worth("y:l-1", 15);
        worth("y:n", 0);
        worth("y:t", 0);
        worth("y:f", 7);
        worth("y:99", 15);
        worth("y:0-99", -15);
        worth("y:7-2-1", 4);
        worth("y:8/2/2", 2);
        worth("y:2+3*4", 14);
        worth("y:[2+1]*4", 12);
        worth("y:7/2", 3);
        worth("y:[0-7]/2", -3);
        worth("y:7/0", 0);
        worth("y:9999*9999-9999*99", 15);
        worth("y:[9999*9999]/9999", 15);
        worth("y:9999*9999/9999-90", 10);
        worth("y:0-9999*9999/9999+90", -10);
        worth("y:9999*9999*9999*9999/9999/10", 10);
        worth("y:v=3?1;y:2", 2);
        worth("y:v<0?1;y:2", 1);
        worth("y:v>0?1", 0);
        worth("y:v=1?1;y:v<0?4;y:5", 4);
        worth("y:!v=1?1", 1);
        worth("y:!!v=1?1;y:2", 2);
        worth("y:1=1|1=2&1=2?6;y:7", 6);
        worth("y:(1=1|1=2)&1=2?6;y:7", 7);
        worth("y:!1=2&1=2?6;y:7", 7);
        worth("y:!(1=2&1=2)?6;y:7", 6);
        worth("y:1+1=2?6", 6);
        worth("y:1<1?6", 0);
        worth("y:1>1?6", 0);
        worth("y:9999*9999-9999*100-90", 10);
        worth("y:0-9999*9999+9999*100+90", -10);
        worth("y:1=2?9999;y:1=1?3;y:4", 3);
        worth("y:n=0?p+5", 5);
        worth("y : 1 < 2 ? [ f - 1 ] * 2", 12);
    }

    /** The letters behind a tick, as they are ahead of the next one. */
    private static void letters() {
        SlitDrum drum = Checks.drum("sf7o99;wv3b1p2;wv2p9", "abcdefghijklmnop");
        drum.law(Checks.tell(drum, 1, "y:t"));
        drum.ticks(25);
        checks.same("0 + 1 .. + 23 + 0, each held within 15", drum.wheel(0, 2), (2 + 105 + 9 * 15) % 16);
        drum.law(Checks.tell(drum, 1, "y:p"));
        int place = drum.wheel(1, 2);
        drum.ticks(1);
        checks.same("twice the place", drum.wheel(1, 2), 2 * place % 16);
        drum.law(Checks.tell(drum, 1, "y:n-p+v"));
        place = drum.wheel(0, 2);
        drum.ticks(1);
        checks.same("what it shows is its place here", drum.wheel(0, 2), (place + 13) % 16);
    }

    private static void touches(SlitDrum drum) {
        checks.same("touch(3) is so", drum.touch(3), false);
        checks.same("touch(-1)", drum.touch(-1), false);
        checks.same("touch(10)", drum.touch(10), false);
        checks.same("touch(0)", drum.touch(0), true);
        checks.same("touch(0) is so", drum.touch(0), false);
        checks.same("touch(9)", drum.touch(9), true);
        checks.same("count(6)", drum.count(6), 9);
        checks.same("no status of it", drum.status(1) + drum.status(2), 0);
    }

    private static void counts() {
        SlitDrum drum = Checks.drum("sf2;w;w", "ab");
        Checks.tell(drum, 1, "y:1");
        drum.law(0);
        drum.ticks(5);
        drum.noted(3, 4, false);
        Checks.feed(drum, "abc");
        int[] due = {2, 1, 1, 3, 0, 5, 3, 1, 2, 5};
        for (int what = 0; what < due.length; what++) {
            checks.same("count(" + what + ")", drum.count(what), due[what]);
        }
        checks.same("count(10)", drum.count(10), -1000000);
        checks.same("count(-1)", drum.count(-1), -1000000);
    }
}
