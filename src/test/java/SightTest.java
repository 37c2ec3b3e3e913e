/** Promises 23 to 29: at, seems, stands, together, again, meets, reads. */
public final class SightTest {
    private static final Checks checks = new Checks("SightTest");

    public static void main(String[] args) {
        refused();
        at();
        seems();
        stands();
        together();
        again();
        meets();
        reads();
        changesNothing();
        checks.end();
    }

    private static void refused() {
        SlitDrum none = new SlitDrum();
        checks.same("at", none.at(0, 0), -1);
        checks.same("seems", none.seems(0, 1), -1000000);
        checks.same("stands", none.stands(0, -1), -1);
        checks.same("together", none.together(), -1);
        checks.same("again of all", none.again(-1), -1);
        checks.same("again", none.again(0), -1);
        Checks.tell(none, 2, "ab");
        checks.same("reads", none.reads(0), -1);
        SlitDrum drum = Checks.drum("w;w", "ab");
        checks.same("at", drum.at(2, 0), -1);
        checks.same("at", drum.at(-1, 0), -1);
        checks.same("at", drum.at(0, -1), -1);
        checks.same("at", drum.at(0, 100), -1);
        checks.same("seems", drum.seems(2, 1), -1000000);
        checks.same("seems", drum.seems(0, 0), -1000000);
        checks.same("seems", drum.seems(0, 61), -1000000);
        checks.same("stands", drum.stands(2, -1), -1);
        checks.same("stands", drum.stands(0, -2), -1);
        checks.same("again", drum.again(2), -1);
        checks.same("again", drum.again(-2), -1);
        checks.same("meets", drum.meets(0, 2), -1);
        checks.same("meets", drum.meets(-1, 0), -1);
        checks.same("meets alike", drum.meets(1, 1), -1);
        checks.same("reads", drum.reads(1), -1);
        checks.same("reads", drum.reads(-1), -1);
    }

    private static void at() {
        SlitDrum drum = Checks.drum("sf5o0;wv2p1", "abcdefg");
        for (int i = 0; i <= 99; i++) {
            checks.same("at " + i, drum.at(0, i), (1 + 10 * i) % 7);
        }
        drum.flash(60);
        checks.same("at 99 of 60", drum.at(0, 99), (1 + 2 * 5940) % 7);
        drum.law(Checks.tell(drum, 1, "y:t=0?1"));
        drum.flash(12);
        for (int i = 0; i <= 99; i++) {
            checks.same("once a day, at " + i, drum.at(0, i), (1 + (i + 1) / 2) % 7);
        }
    }

    private static void seems() {
        SlitDrum drum = Checks.drum("wv3;wv1r1;wb1r1", "abcdefgh", "abc");
        int[] due = {3, -2, 1, 4, -1, 2, -3, 0, 3};
        for (int f = 1; f <= due.length; f++) {
            checks.same("seems 0 " + f, drum.seems(0, f), due[f - 1]);
        }
        checks.same("seems 1 1", drum.seems(1, 1), 1);
        checks.same("seems 1 2", drum.seems(1, 2), -1);
        checks.same("seems 2 1", drum.seems(2, 1), -1);
        checks.same("seems 2 60", drum.seems(2, 60), 0);
        SlitDrum off = Checks.drum("wv3p7", "abcdefgh");
        checks.same("from place 7", off.seems(0, 1), 3);
        checks.same("from place 7", off.seems(0, 4), 4);
        drum.law(Checks.tell(drum, 1, "y:f"));
        checks.same("f is the flash that is set", drum.seems(0, 1), -2);
    }

    private static void stands() {
        SlitDrum drum = Checks.drum("wv3;wv0;wr3;wv2r1", "abcdefgh", "abcdef");
        checks.same("how many", drum.stands(0, -1), 7);
        checks.same("first", drum.stands(0, 0), 8);
        checks.same("last", drum.stands(0, 6), 56);
        checks.same("no more", drum.stands(0, 7), -1);
        checks.same("speed 0", drum.stands(1, -1), 60);
        checks.same("bare", drum.stands(2, -1), 60);
        checks.same("bare", drum.stands(2, 59), 60);
        checks.same("thirds", drum.stands(3, -1), 20);
        checks.same("thirds", drum.stands(3, 1), 6);
        SlitDrum once = Checks.drum("wv1", "abcdef");
        once.law(Checks.tell(once, 1, "y:t=0|t=1?3;y:0"));
        checks.same("away at 1, 25 ..: not by 1, 5, 25, 29, 49, 53", once.stands(0, -1), 54);
        checks.same("first", once.stands(0, 0), 2);
        checks.same("not by 5", once.stands(0, 3), 6);
    }

    private static void together() {
        checks.same("6 and 4", Checks.drum("wv1;wv1r1", "abcdef", "abcd").together(), 12);
        checks.same("by none", Checks.drum("wv1;wv1r1", "abcdefghijklm", "abcdefg").together(), -1);
        checks.same("all still", Checks.drum("wv0;wr5", "ab").together(), 1);
        checks.same("fifteen and four", Checks.drum("wv1;wv1r1", "abcdefghijklmno", "abcd").together(), 60);
    }

    private static void again() {
        SlitDrum drum = Checks.drum("wv1;wv2r1;wv1r2;wr5", "abcdefghijklm", "abcdefghijk", "abcdefg");
        checks.same("13", drum.again(0), 13);
        checks.same("11", drum.again(1), 11);
        checks.same("bare", drum.again(3), 1);
        checks.same("of all", drum.again(-1), 1001);
        SlitDrum far = Checks.drum("wv1;wv1r1;wv1r2;wv1r3", "abcdefghijklm", "abcdefghijk", "abcdefg", "2abcde.gh");
        checks.same("9009", far.again(-1), 9009);
        SlitDrum never = Checks.drum("w", "abcd");
        never.law(Checks.tell(never, 1, "y:p=0?1"));
        checks.same("never", never.again(0), -1);
        checks.same("never", never.again(-1), -1);
        SlitDrum farther = Checks.drum("wv1;wv1r1;wv1r2;wv1r3", "abcdefghijklm", "abcdefghijk", "9a7b", "abcdefg");
        checks.same("16016 is too far", farther.again(-1), -1);
    }

    private static void meets() {
        SlitDrum drum = Checks.drum("wv1;wv1r1;wv2r2;wr5", "abcdefg", "....z..g", "h");
        checks.same("at 55", drum.meets(0, 1), 55);
        checks.same("never", drum.meets(0, 2), -1);
        checks.same("blank ones do not", drum.meets(1, 3), -1);
        // The law moves wheels once a day, so that they show a together behind 42 moves alone.
        SlitDrum late = Checks.drum("w;wr1", "...a.........", ".........a.", "a");
        late.law(Checks.tell(late, 1, "y:t=14?1"));
        checks.same("at 999", late.meets(0, 1), 999);
        checks.same("reads at 999", late.reads(2), 999);
        late.law(Checks.tell(late, 1, "y:t=15?1"));
        checks.same("at 1000", late.meets(0, 1), -1);
        checks.same("reads at 1000", late.reads(2), -1);
        SlitDrum now = Checks.drum("w;w", "ab");
        checks.same("now", now.meets(1, 0), 0);
    }

    private static void reads() {
        SlitDrum drum = Checks.drum("wv1;wv2;wv0r3", "abc", "ba", "cab", ".", "cb..");
        checks.same("c b . of 'cb..'", drum.reads(4), 2);
        checks.same("b c x", drum.reads(1), -1);
        SlitDrum round = Checks.drum("wv1;wv1p1;wv1", "ab", "ba", "abab");
        checks.same("round and round", round.reads(1), 1);
        checks.same("now", round.reads(2), 0);
        SlitDrum bare = Checks.drum("wr5;wr5", ".");
        checks.same("bare ones show a blank", bare.reads(0), 0);
    }

    private static void changesNothing() {
        SlitDrum drum = Checks.drum("sf5o0;wv2p1;wv1", "abcdefg");
        drum.at(0, 50);
        drum.seems(0, 9);
        drum.stands(0, -1);
        drum.together();
        drum.again(-1);
        drum.meets(0, 1);
        drum.reads(0);
        checks.same("place", drum.wheel(0, 2), 1);
        checks.same("tick", drum.count(5), 0);
        checks.same("acts", drum.count(9), 0);
        checks.same("rows", drum.count(8), 0);
    }
}
