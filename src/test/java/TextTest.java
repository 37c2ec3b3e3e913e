/** Promises 1 to 5: a new object, feed, end, fault, text. */
public final class TextTest {
    private static final Checks checks = new Checks("TextTest");

    public static void main(String[] args) {
        newObject();
        feeding();
        ending();
        lanternFaults();
        lawFaults();
        stripFaults();
        telling();
        tellingAnew();
        checks.end();
    }

    private static void newObject() {
        SlitDrum drum = new SlitDrum();
        int[] counts = {0, 0, 0, 0, -1, 0, 3, 0, 0, 0};
        for (int what = 0; what < counts.length; what++) {
            checks.same("new count(" + what + ")", drum.count(what), counts[what]);
        }
        checks.same("new rule", drum.rule(0), -1);
        checks.throwsNoSuch("new wheel", drum, 0, 0);
        for (int what = 0; what < 5; what++) {
            checks.same("new status", drum.status(what), 0);
        }
    }

    private static void feeding() {
        SlitDrum drum = new SlitDrum();
        checks.same("zeros", drum.feed(0, 0, 0, 0, 0), 0);
        checks.same("zeros left out", drum.feed(0x61006200, 0, 0x00000063, 0, 0x64000000), 4);
        checks.same("in order", drum.text(2), 0);
        int[] due = {0, 1, 2, 3};
        for (int i = 0; i < due.length; i++) {
            checks.same("picture " + i, drum.picture(0, i), due[i]);
        }
        for (int i = 1; i <= 12; i++) {
            checks.same("feed " + i, drum.feed(0x61616161, 0x61616161, 0x61616161, 0x61616161, 0x61616161), 20 * i);
        }
        checks.same("full", drum.feed(0, 0, 0, 0, 1), -1);
        checks.same("full, nothing more", drum.feed(0, 0, 0, 0, 0), 240);
        drum.end(221);
        checks.same("twenty are too many", drum.feed(-1, -1, -1, -1, -1), -1);
        checks.same("refused whole", drum.count(3), 221);
        checks.same("nineteen are not", drum.feed(-1, -1, -1, -1, 0x01010100), 240);
        drum.end(0);
        drum.feed(0xE1000000, 0, 0, 0, 0);
        checks.same("a byte above 127", drum.fault(2), 0);
    }

    private static void ending() {
        SlitDrum drum = new SlitDrum();
        checks.same("end(0) of none", drum.end(0), true);
        checks.same("end(1) of none", drum.end(1), false);
        Checks.feed(drum, "abc");
        checks.same("end(-1)", drum.end(-1), false);
        checks.same("end(4)", drum.end(4), false);
        checks.same("as it was", drum.count(3), 3);
        checks.same("end(3)", drum.end(3), true);
        checks.same("end(2)", drum.end(2), true);
        checks.same("two", drum.count(3), 2);
        drum.text(2);
        checks.same("first two", drum.picture(0, -1), 2);
    }

    private static void fault(int sort, String text, int due) {
        checks.same("fault(" + sort + ") of " + text, Checks.faultOf(new SlitDrum(), sort, text), due);
    }

    private static void lanternFaults() {
        fault(0, "", 0);
        fault(0, "   ", 3);
        fault(0, "s", 1);
        fault(0, "s;", 2);
        fault(0, "s ; ", 4);
        fault(0, "w;", 2);
        fault(0, "w;s", -1);
        fault(0, "s;w;w;w;w", -1);
        fault(0, "w;w;s;w;w", -1);
        fault(0, "s;w;w;w;w;", 10);
        fault(0, "s;w;w;w;w;w", 10);
        fault(0, "s;w;s", 4);
        fault(0, "ww", 1);
        fault(0, "sw", 1);
        fault(0, "W", 0);
        fault(0, ";w", 0);
        fault(0, "w;;w", 2);
        fault(0, "sf1o0k0;wv0b0p0r0", -1);
        fault(0, "sf60o99k99;wv9b1p15r5", -1);
        fault(0, "wr5p15b1v9", -1);
        fault(0, "wv09b01p09r05", -1);
        fault(0, "sf0", 2);
        fault(0, "sf00;w", 3);
        fault(0, "sf01;w", -1);
        fault(0, "sf61", 3);
        fault(0, "sf610", 4);
        fault(0, "sf999", 4);
        fault(0, "wv10", 3);
        fault(0, "wv100", 4);
        fault(0, "wv000", 4);
        fault(0, "wb2", 2);
        fault(0, "wp16", 3);
        fault(0, "wr6", 2);
        fault(0, "wv 9 9", 5);
        fault(0, "wv1 0", 4);
        fault(0, "wv", 2);
        fault(0, "wv  ", 4);
        fault(0, "wvp", 2);
        fault(0, "wv1p2v3", 5);
        fault(0, "wv1v", 3);
        fault(0, "wv1;wv1", -1);
        fault(0, "wf1", 1);
        fault(0, "sv1", 1);
        fault(0, "w v\t1", 3);
        fault(0, "w1", 1);
        fault(0, "wv-1", 2);
    }

    private static void lawFaults() {
        fault(1, "", 0);
        fault(1, "y", 1);
        fault(1, "y:", 2);
        fault(1, "y:v;", 4);
        fault(1, "y:v;v", 4);
        fault(1, "y:v;y:p", -1);
        fault(1, " y : v ; y : p ", -1);
        fault(1, "x:v", 0);
        fault(1, "yv", 1);
        fault(1, "y:1234", -1);
        fault(1, "y:12345", 6);
        fault(1, "y:00000", 6);
        fault(1, "y:12 34", 5);
        fault(1, "y:-1", 2);
        fault(1, "y:1v", 3);
        fault(1, "y:v+", 4);
        fault(1, "y:v+*", 4);
        fault(1, "y:v-p*l/n+t-f", -1);
        fault(1, "y:[v", 4);
        fault(1, "y:[v]]", 5);
        fault(1, "y:[v)", 4);
        fault(1, "y:[v=1]", 4);
        fault(1, "y:v?1", 3);
        fault(1, "y:v=1", 5);
        fault(1, "y:v=1;", 5);
        fault(1, "y:v=1=2", 5);
        fault(1, "y:v=1?", 6);
        fault(1, "y:v=1?2", -1);
        fault(1, "y:v=1?2=3", 7);
        fault(1, "y:v=1?2?3", 7);
        fault(1, "y:v=1?2&3", 7);
        fault(1, "y:v=1&p", 7);
        fault(1, "y:v=1&p?", 7);
        fault(1, "y:v=1&p<2|n>3?4", -1);
        fault(1, "y:v=1&(p<2|n>3)?4", -1);
        fault(1, "y:v=(1)", 4);
        fault(1, "y:(v)", 4);
        fault(1, "y:(v=1)", 7);
        fault(1, "y:(v=1)+1", 7);
        fault(1, "y:(v=1)=1", 7);
        fault(1, "y:(v=1))", 7);
        fault(1, "y:(v=1?2", 6);
        fault(1, "y:!v?1", 4);
        fault(1, "y:!v=1?1", -1);
        fault(1, "y:!!v=1?1", -1);
        fault(1, "y:!;", 3);
        fault(1, "y:v=1?!v=1", 6);
        fault(1, "y:v=1?(", 6);
        fault(1, "y:v=!1", 4);
        fault(1, "y:v+!1", 4);
        fault(1, "y:a", 2);
        fault(1, "y:((((((v=1))))))?1", -1);
        fault(1, "y:(((((((v=1", 8);
        fault(1, "y:!!!!!!v=1?1", -1);
        fault(1, "y:!!!!!!!v=1?1", 8);
        fault(1, "y:[[[[[[v]]]]]]", -1);
        fault(1, "y:[[[[[[[v", 8);
        fault(1, "y:!(!(![v]=1))?1", -1);
        fault(1, "y:!(!(![[v]]=1))?1", 8);
        fault(1, "y:!(!(!(v=[1])))?1", 10);
        fault(1, "y:!(!((v=[1])))?1", -1);
        fault(1, "y:v=1?[[[[[[v]]]]]]", -1);
        fault(1, "y:v=1?[[[[[[[v", 12);
        fault(1, "y:v=[[[[[[1]]]]]]?1", -1);
        fault(1, "y:v=1&[[[[[[1]]]]]]=1?1", -1);
        fault(1, "y:v=1|!!!!!!1=1?1", -1);
        fault(1, "y:v=1|!!!!!!!1=1?1", 12);
        fault(1, "y:!v=1&!v=2&!v=3&!v=4&!v=5&!v=6&!v=7?1", -1);
        fault(1, "y:[v]+[v]+[v]+[v]+[v]+[v]+[v]", -1);
    }

    private static void stripFaults() {
        fault(2, "", 0);
        fault(2, "  ", 2);
        fault(2, "a", -1);
        fault(2, " z . ", -1);
        fault(2, "2", 1);
        fault(2, "2 ", 2);
        fault(2, "2 a", -1);
        fault(2, "9.7z", -1);
        fault(2, "9.8z", 3);
        fault(2, "9.8 z", 4);
        fault(2, "9.7zq", 4);
        fault(2, "9.7z2", 5);
        fault(2, "9.7z2q", 5);
        fault(2, "9.7z22", 5);
        fault(2, "9.7z1", 4);
        fault(2, "0a", 0);
        fault(2, "a1b", 1);
        fault(2, "22a", 1);
        fault(2, "aB", 1);
        fault(2, "a;b", 1);
    }

    private static void telling() {
        SlitDrum drum = new SlitDrum();
        checks.same("fault of no sort", drum.fault(-1), -2);
        checks.same("fault of no sort", drum.fault(3), -2);
        Checks.feed(drum, "ab");
        checks.same("text of no sort", drum.text(3), -1);
        checks.same("text of no sort", drum.text(-1), -1);
        checks.same("text with a fault", drum.text(0), -1);
        checks.same("refused: the tape stays", drum.count(3), 2);
        for (int i = 0; i < 6; i++) {
            checks.same("strip", Checks.tell(drum, 2, "ab"), i);
            checks.same("the tape is empty", drum.count(3), 0);
        }
        checks.same("a seventh strip", Checks.tell(drum, 2, "ab"), -1);
        checks.same("the tape stays", drum.count(3), 2);
        checks.same("six strips", drum.count(2), 6);
        for (int i = 0; i < 4; i++) {
            checks.same("law", Checks.tell(drum, 1, "y:v"), i);
        }
        checks.same("a fifth law", Checks.tell(drum, 1, "y:v"), -1);
        checks.same("four laws", drum.count(1), 4);
        checks.same("none holds by that", drum.count(4), -1);
        checks.same("lantern", Checks.tell(drum, 0, "w;w;w"), 3);
    }

    private static void tellingAnew() {
        SlitDrum drum = Checks.drum("sf2;wv1r1p9", "abc");
        checks.same("bare", drum.wheel(0, 4), 1);
        checks.same("bare, place", drum.wheel(0, 2), 0);
        drum.ticks(3);
        checks.same("its strip comes", Checks.tell(drum, 2, "xyz"), 1);
        checks.same("long now", drum.wheel(0, 4), 3);
        checks.same("place", drum.wheel(0, 2), 0);
        checks.same("shows", drum.wheel(0, 5), 23);
        Checks.tell(drum, 1, "y:2");
        drum.law(0);
        drum.touch(7);
        drum.noted(1, 2, true);
        drum.image();
        drum.flash(70);
        checks.same("another lantern", Checks.tell(drum, 0, "w p14 r1;w p5 r3"), 2);
        int[] counts = {2, 1, 2, 0, 0, 0, 7, 0, 0, 0};
        for (int what = 0; what < counts.length; what++) {
            checks.same("then count(" + what + ")", drum.count(what), counts[what]);
        }
        checks.same("status stays", drum.status(1), 1);
        checks.same("no image of this lantern", drum.back(), -1);
        checks.same("no undoing", drum.undo(), -1);
        checks.same("place modulo long", drum.wheel(0, 2), 2);
        checks.same("place of a bare one", drum.wheel(1, 2), 0);
        checks.same("without: flash", drum.rule(0), 6);
        checks.same("without: oil", drum.rule(1), 40);
        checks.same("without: coins", drum.rule(2), 20);
        checks.same("without: speed", drum.wheel(0, 0), 1);
    }
}
