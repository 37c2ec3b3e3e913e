/** Edges of promises 6 to 10, 20 and 46: rule, wheel, picture, law (and how it moves), touch, status, count. */
public final class EdgeStateTest {
    private static final Edges edges = new Edges("EdgeStateTest");
    private static final int NONE = Edges.NONE;
    private static final int BLANK = Edges.BLANK;
    private static final String SIXTEEN = "abcdefghijklmnop";

    public static void main(String[] args) {
        edges.run(EdgeStateTest.class);
    }

    // ---- 6: rule

    private static void p06_noLantern() {
        for (int what = 0; what <= 2; what++) {
            edges.same("rule(" + what + ")", new SlitDrum().rule(what), NONE);
        }
    }

    private static void p06_noSuchWhat() {
        for (int what : new int[] {-1, 3, Edges.LEAST, Edges.MOST}) {
            edges.refused("rule(" + what + ")", drum -> drum.rule(what), NONE, Edges.NO_STATUS);
        }
    }

    private static void p06_allAsNow() {
        SlitDrum drum = Checks.drum("sf9o8k7;w", "ab");
        drum.ticks(1);
        drum.push(0, 1);
        drum.flash(5);
        edges.same("flash", drum.rule(0), 5);
        edges.same("oil", drum.rule(1), 7);
        edges.same("coins", drum.rule(2), 6);
    }

    // ---- 7: wheel

    private static void p07_noSuchWheelThrows() {
        SlitDrum drum = Checks.drum("w;w", "ab");
        for (int wheel : new int[] {-1, 2, 3, 4, Edges.LEAST, Edges.MOST}) {
            edges.noSuchWheel(drum, wheel, 0);
        }
    }

    private static void p07_noSuchWhatThrows() {
        SlitDrum drum = Checks.drum("w;w", "ab");
        for (int what : new int[] {-1, 6, Edges.LEAST, Edges.MOST}) {
            edges.noSuchWheel(drum, 1, what);
        }
    }

    private static void p07_noLanternThrows() {
        edges.noSuchWheel(new SlitDrum(), 0, 0);
        edges.noSuchWheel(new SlitDrum(), -1, -1);
    }

    private static void p07_throwingChangesNothing() {
        SlitDrum drum = Edges.rich();
        edges.noSuchWheel(drum, 4, 0);
        edges.noSuchWheel(drum, 0, 6);
        edges.same("seen", Edges.seen(drum), Edges.seen(Edges.rich()));
        edges.statuses(drum, 0, 0, 0, 0, 0);
    }

    private static void p07_theFirstAndTheLastWheel() {
        SlitDrum drum = Checks.drum("wv2p1;w;w;wv9b1p3r1", "abc", "z.yx");
        edges.wheelIs(drum, 0, 2, 0, 1, 0, 3, 1);
        edges.wheelIs(drum, 3, 9, 1, 3, 1, 4, 23);
    }

    private static void p07_aBareWheel() {
        SlitDrum drum = Checks.drum("wv9b1p7r5", "abc");
        edges.wheelIs(drum, 0, 9, 1, 0, 5, 1, BLANK);
        drum.ticks(1);
        edges.wheelIs(drum, 0, 9, 1, 0, 5, 1, BLANK);
    }

    // ---- 8: picture

    private static void p08_noSuchStrip() {
        for (int strip : new int[] {-1, 3, 5, 6, Edges.LEAST, Edges.MOST}) {
            edges.refused("picture(" + strip + ", 0)", drum -> drum.picture(strip, 0), NONE, Edges.NO_STATUS);
            edges.same("how many of " + strip, Edges.rich().picture(strip, NONE), NONE);
        }
    }

    private static void p08_noSuchPicture() {
        for (int i : new int[] {-2, 4, 16, Edges.LEAST, Edges.MOST}) {
            edges.refused("picture(0, " + i + ")", drum -> drum.picture(0, i), NONE, Edges.NO_STATUS);
        }
    }

    private static void p08_theFirstTheLastAndHowMany() {
        SlitDrum drum = Checks.drum("w", "z", SIXTEEN);
        edges.same("one", drum.picture(0, NONE), 1);
        edges.same("the only one", drum.picture(0, 0), 25);
        edges.same("no other", drum.picture(0, 1), NONE);
        edges.same("sixteen", drum.picture(1, NONE), 16);
        edges.same("the last", drum.picture(1, 15), 15);
        edges.same("no other", drum.picture(1, 16), NONE);
    }

    private static void p08_picturesFrom0To26() {
        SlitDrum drum = Checks.drum("w", "az.");
        edges.same("a", drum.picture(0, 0), 0);
        edges.same("z", drum.picture(0, 1), 25);
        edges.same("a blank one", drum.picture(0, 2), 26);
    }

    // ---- 9: law

    private static void p09_noSuchLaw() {
        for (int law : new int[] {-2, 2, 3, 4, Edges.LEAST, Edges.MOST}) {
            edges.refused("law(" + law + ")", drum -> drum.law(law) ? 1 : 0, 0, Edges.NO_STATUS);
        }
    }

    private static void p09_noneCanHoldWithoutAny() {
        SlitDrum drum = new SlitDrum();
        edges.same("law(-1)", drum.law(NONE), true);
        edges.same("law(0)", drum.law(0), false);
        edges.same("count(4)", drum.count(4), NONE);
    }

    private static void p09_theLastOfFour() {
        SlitDrum drum = Checks.drum("wv1", SIXTEEN);
        for (int i = 0; i < 4; i++) {
            Checks.tell(drum, Checks.LAW, "y:" + (i + 4));
        }
        edges.same("law(3)", drum.law(3), true);
        edges.same("law(4)", drum.law(4), false);
        edges.same("count(4)", drum.count(4), 3);
        drum.ticks(1);
        edges.same("place", drum.wheel(0, 2), 7);
    }

    private static void p09_noneHoldsAgain() {
        SlitDrum drum = Checks.drum("wv1", SIXTEEN);
        drum.law(Checks.tell(drum, Checks.LAW, "y:5"));
        drum.ticks(1);
        edges.same("by the law", drum.wheel(0, 2), 5);
        edges.same("law(-1)", drum.law(NONE), true);
        drum.ticks(1);
        edges.same("by speed", drum.wheel(0, 2), 6);
    }

    private static void p09_aLawIsNoAct() {
        SlitDrum drum = Checks.drum("wv1", SIXTEEN);
        Checks.tell(drum, Checks.LAW, "y:5");
        drum.about(0);
        drum.law(0);
        edges.same("count(9)", drum.count(9), 1);
        drum.undo();
        edges.same("it still holds", drum.count(4), 0);
    }

    /** From place 8 of 16, speed 3 and back, flash 7, tick 0: by how much it goes at one tick. */
    private static void moves(String law, int by) {
        SlitDrum drum = Checks.drum("sf7;wv3b1p8", SIXTEEN);
        int told = Checks.tell(drum, Checks.LAW, law);
        edges.same("text(1) of " + law, told, 0);
        drum.law(told);
        drum.ticks(1);
        edges.same("the place by " + law, drum.wheel(0, 2), Math.floorMod(8 + by, 16));
    }

    private static void p09_worthIsHeldWithinFifteen() {
        moves("y:15", 15);
        moves("y:16", 15);
        moves("y:17", 15);
        moves("y:9999", 15);
        moves("y:14", 14);
        moves("y:0-15", -15);
        moves("y:0-16", -15);
        moves("y:0-17", -15);
        moves("y:0-9999", -15);
        moves("y:0-14", -14);
    }

    private static void p09_numbersAreHeldWithinAMillion() {
        moves("y:1000*1000-9999*100-90", 10);
        moves("y:1000*1000/9999-95", 5);
        moves("y:1001*1000/1000-990", 10);
        moves("y:9999*9999/1000-990", 10);
        moves("y:9999*101-9999*100-90", 10);
    }

    private static void p09_numbersAreHeldAboveMinusAMillion() {
        moves("y:[0-1000]*1000/1000+1009", 9);
        moves("y:[0-1001]*1000/1000+1009", 9);
        moves("y:[0-9999]*9999/1000+1009", 9);
        moves("y:0-9999*100-9999+9999*100+90", -10);
    }

    private static void p09_eachSignHoldsByItself() {
        moves("y:9999*9999*9999*9999*9999/9999/10", 10);
        moves("y:[0-9999]*9999*9999/1000/100", -10);
        moves("y:1000*1000+1-9999*100-95", 5);
        moves("y:1000*1000+9999-9999*100-95", 5);
    }

    private static void p09_divisionCutsTowardsZero() {
        moves("y:7/2", 3);
        moves("y:[0-7]/2", -3);
        moves("y:7/[0-2]", -3);
        moves("y:[0-7]/[0-2]", 3);
        moves("y:1/2", 0);
        moves("y:[0-1]/2", 0);
    }

    private static void p09_divisionByZeroGivesZero() {
        moves("y:7/0", 0);
        moves("y:0/0", 0);
        moves("y:7/t", 0);
        moves("y:7/[v+3]+4", 4);
        moves("y:5/0/0+2", 2);
    }

    private static void p09_zeroWithoutAClauseThatHolds() {
        moves("y:1=2?5", 0);
        moves("y:1=2?5;y:v>0?6", 0);
    }

    private static void p09_theFirstClauseThatHolds() {
        moves("y:1=1?5;y:1=1?6;y:7", 5);
        moves("y:1=2?5;y:1=1?6;y:7", 6);
        moves("y:1=2?5;y:1=2?6;y:7", 7);
        moves("y:4;y:1=1?5", 4);
    }

    private static void p09_equalIsNeitherLessNorMore() {
        moves("y:p=8?1;y:2", 1);
        moves("y:p<8?1;y:2", 2);
        moves("y:p>8?1;y:2", 2);
        moves("y:p<9?1;y:2", 1);
        moves("y:p>7?1;y:2", 1);
        moves("y:p=7?1;y:2", 2);
        moves("y:p=9?1;y:2", 2);
        moves("y:0-1<0?1;y:2", 1);
    }

    private static void p09_whatHoldsWithOthersAndWithout() {
        for (String truth : "3=3 2<3 3>2".split(" ")) {
            moves("y:!" + truth + "?5;y:6", 6);
            moves("y:!!" + truth + "?5;y:6", 5);
            moves("y:" + truth + "&1=1?5;y:6", 5);
            moves("y:1=1&" + truth + "?5;y:6", 5);
            moves("y:" + truth + "&(" + truth + ")?5;y:6", 5);
            moves("y:" + truth + "|1=2?5;y:6", 5);
            moves("y:1=2|" + truth + "?5;y:6", 5);
            moves("y:1=2&" + truth + "?5;y:6", 6);
        }
        for (String wrong : "2=3 3=2 3<3 3<2 3>3 2>3".split(" ")) {
            moves("y:!" + wrong + "?5;y:6", 5);
            moves("y:" + wrong + "&1=1?5;y:6", 6);
            moves("y:" + wrong + "|1=2?5;y:6", 6);
        }
    }

    private static void p09_andBindsMoreThanOr() {
        moves("y:1=1|1=1&1=2?5;y:6", 5);
        moves("y:1=2&1=1|1=1?5;y:6", 5);
        moves("y:(1=1|1=1)&1=2?5;y:6", 6);
        moves("y:1=2|1=2|1=1?5;y:6", 5);
        moves("y:1=1&1=1&1=2?5;y:6", 6);
    }

    private static void p09_notIsOfTheNextUnitAlone() {
        moves("y:!1=2&1=2?5;y:6", 6);
        moves("y:!1=1|1=1?5;y:6", 5);
        moves("y:!(1=1|1=1)?5;y:6", 6);
        moves("y:!!1=1?5;y:6", 5);
        moves("y:!!!1=1?5;y:6", 6);
    }

    private static void p09_signsGoFromLeftToRight() {
        moves("y:9-4-3", 2);
        moves("y:8/4/2", 1);
        moves("y:8/4*2", 4);
        moves("y:3*5/4", 3);
        moves("y:2+3*4", 14);
        moves("y:[2+1]*4", 12);
        moves("y:14-2*4-1", 5);
    }

    private static void p09_theLettersOfAWheel() {
        moves("y:v", -3);
        moves("y:p", 8);
        moves("y:l-3", 13);
        moves("y:n+1", 9);
        moves("y:t+2", 2);
        moves("y:f", 7);
    }

    private static void p09_theLettersOfABareWheel() {
        SlitDrum drum = Checks.drum("wv3r5;wp1", SIXTEEN);
        drum.law(Checks.tell(drum, Checks.LAW, "y:l=1?9;y:1"));
        drum.ticks(1);
        edges.same("its place", drum.wheel(0, 2), 0);
        edges.same("the other's", drum.wheel(1, 2), 2);
        edges.same("most(7)", drum.most(7), 1);
    }

    private static void p09_aBlankOneIsTwentySix() {
        SlitDrum drum = Checks.drum("w", ".abc");
        drum.law(Checks.tell(drum, Checks.LAW, "y:n=26?3;y:1"));
        drum.ticks(1);
        edges.same("place", drum.wheel(0, 2), 3);
        drum.ticks(1);
        edges.same("place", drum.wheel(0, 2), 0);
    }

    private static void p09_theTickGoesRoundAt24() {
        SlitDrum drum = Checks.drum("so99;wv0", SIXTEEN);
        drum.law(Checks.tell(drum, Checks.LAW, "y:t=0?1;y:t=23?2"));
        int[] ticks = {1, 22, 1, 1, 22, 1, 1};
        int[] due = {1, 1, 3, 4, 4, 6, 7};
        for (int i = 0; i < ticks.length; i++) {
            drum.ticks(ticks[i]);
            edges.same("place at " + drum.count(5), drum.wheel(0, 2), due[i]);
        }
        drum.law(Checks.tell(drum, Checks.LAW, "y:t>23|t<0?9"));
        drum.ticks(50);
        edges.same("never beyond 23", drum.wheel(0, 2), 7);
    }

    private static void p09_flashAsItIsAheadOfTheTick() {
        SlitDrum drum = Checks.drum("sf6;wv0", SIXTEEN);
        drum.law(Checks.tell(drum, Checks.LAW, "y:f"));
        drum.ticks(1);
        edges.same("by 6", drum.wheel(0, 2), 6);
        drum.flash(1);
        drum.ticks(1);
        edges.same("by 1", drum.wheel(0, 2), 7);
        drum.flash(60);
        drum.ticks(1);
        edges.same("60 is held within 15", drum.wheel(0, 2), 6);
    }

    private static void p09_movesRoundFromBelowZero() {
        SlitDrum drum = Checks.drum("w;wp2;wr1", "abc", "ab");
        drum.law(Checks.tell(drum, Checks.LAW, "y:0-15"));
        drum.ticks(1);
        edges.same("0 - 15 of 3", drum.wheel(0, 2), 0);
        edges.same("2 - 15 of 3", drum.wheel(1, 2), 2);
        edges.same("0 - 15 of 2", drum.wheel(2, 2), 1);
    }

    // ---- 10: touch

    private static void p10_outOfBounds() {
        for (int v : new int[] {-1, 10, Edges.LEAST, Edges.MOST}) {
            edges.refused("touch(" + v + ")", drum -> drum.touch(v) ? 1 : 0, 0, Edges.NO_STATUS);
        }
    }

    private static void p10_itIsSo() {
        edges.refused("touch(3)", drum -> drum.touch(3) ? 1 : 0, 0, Edges.NO_STATUS);
        SlitDrum drum = new SlitDrum();
        edges.same("touch(7)", drum.touch(7), true);
        edges.same("touch(7) once more", drum.touch(7), false);
        edges.same("touch(3) then", drum.touch(3), true);
    }

    private static void p10_theLeastAndTheMost() {
        SlitDrum drum = new SlitDrum();
        edges.same("touch(0)", drum.touch(0), true);
        edges.same("count(6)", drum.count(6), 0);
        edges.same("touch(9)", drum.touch(9), true);
        edges.same("count(6)", drum.count(6), 9);
    }

    private static void p10_threeAtFirst() {
        edges.same("count(6)", new SlitDrum().count(6), 3);
    }

    private static void p10_itIsNoAct() {
        SlitDrum drum = Checks.drum("w", "ab");
        drum.touch(5);
        edges.same("count(9)", drum.count(9), 0);
        drum.about(0);
        drum.touch(6);
        drum.undo();
        edges.same("count(6)", drum.count(6), 6);
    }

    // ---- 20: status

    private static void p20_noSuchWhat() {
        for (int what : new int[] {-1, 5, Edges.LEAST, Edges.MOST}) {
            edges.refused("status(" + what + ")", drum -> drum.status(what), NONE, Edges.NO_STATUS);
        }
    }

    private static void p20_noneAtFirst() {
        edges.statuses(new SlitDrum(), 0, 0, 0, 0, 0);
    }

    private static void p20_eachIsCountedByItself() {
        SlitDrum drum = Checks.drum("sk0;w", "ab");
        drum.about(1);
        drum.ticks(0);
        drum.ticks(61);
        drum.flash(6);
        drum.flash(6);
        drum.flash(6);
        for (int i = 0; i < 4; i++) {
            drum.push(0, 1);
        }
        edges.statuses(drum, 1, 2, 3, 4, 0);
    }

    private static void p20_isNotUndone() {
        SlitDrum drum = Checks.drum("w", "ab");
        drum.about(0);
        drum.about(9);
        drum.undo();
        edges.statuses(drum, 1, 0, 0, 0, 0);
    }

    private static void p20_isNotBroughtBackByAnImage() {
        SlitDrum drum = Checks.drum("w", "ab");
        drum.image();
        drum.about(9);
        drum.back();
        edges.statuses(drum, 1, 0, 0, 0, 0);
    }

    private static void p20_staysByAnotherLantern() {
        SlitDrum drum = Checks.drum("w", "ab");
        drum.ticks(0);
        Checks.tell(drum, Checks.LANTERN, "w");
        edges.statuses(drum, 0, 1, 0, 0, 0);
    }

    private static void p20_onlyActsAreCounted() {
        SlitDrum drum = Edges.rich();
        drum.at(9, 9);
        drum.noted(-1, 0, true);
        drum.years(0, 0);
        drum.text(3);
        drum.law(9);
        drum.touch(99);
        drum.odds(9, 9, 9, 9);
        drum.log(99, 0);
        edges.statuses(drum, 0, 0, 0, 0, 0);
    }

    // ---- 46: count

    private static void p46_hiddenForOthers() {
        for (int what : new int[] {-1, 10, Edges.LEAST, Edges.MOST}) {
            edges.refused("count(" + what + ")", drum -> drum.count(what), Edges.HIDDEN, Edges.NO_STATUS);
        }
    }

    private static void p46_ofANewObject() {
        SlitDrum drum = new SlitDrum();
        int[] due = {0, 0, 0, 0, NONE, 0, 3, 0, 0, 0};
        for (int what = 0; what < due.length; what++) {
            edges.same("count(" + what + ")", drum.count(what), due[what]);
        }
    }

    private static void p46_allAtTheirMost() {
        SlitDrum drum = new SlitDrum();
        for (int i = 0; i < 7; i++) {
            Checks.tell(drum, Checks.STRIP, "abc");
            Checks.tell(drum, Checks.LAW, "y:1");
        }
        Checks.tell(drum, Checks.LANTERN, "sf1;w;w;w;w");
        for (int i = 0; i < 11; i++) {
            drum.noted(1, 1, false);
        }
        drum.ticks(60);
        drum.ticks(60);
        drum.law(3);
        drum.touch(9);
        Checks.feed(drum, Edges.times("x", 240));
        int[] due = {4, 4, 6, 240, 3, 120, 9, 10, 60, 40};
        for (int what = 0; what < due.length; what++) {
            edges.same("count(" + what + ")", drum.count(what), due[what]);
        }
    }
}
