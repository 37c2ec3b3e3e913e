/** Edges of promises 1 to 5: a new object, feed, end, fault, text. */
public final class EdgeTextTest {
    private static final Edges edges = new Edges("EdgeTextTest");
    private static final int NONE = Edges.NONE;
    private static final int LANTERN = Checks.LANTERN;
    private static final int LAW = Checks.LAW;
    private static final int STRIP = Checks.STRIP;

    public static void main(String[] args) {
        edges.run(EdgeTextTest.class);
    }

    private static SlitDrum fed(int bytes) {
        SlitDrum drum = new SlitDrum();
        Checks.feed(drum, Edges.times("a", bytes));
        return drum;
    }

    // ---- 1: a new object

    private static void p01_newObjectHasNothing() {
        SlitDrum drum = new SlitDrum();
        int[] due = {0, 0, 0, 0, NONE, 0, 3, 0, 0, 0};
        for (int what = 0; what < due.length; what++) {
            edges.same("count(" + what + ")", drum.count(what), due[what]);
        }
        edges.statuses(drum, 0, 0, 0, 0, 0);
    }

    private static void p01_newObjectHasNoLantern() {
        SlitDrum drum = new SlitDrum();
        edges.same("rule(0)", drum.rule(0), NONE);
        edges.noSuchWheel(drum, 0, 0);
        edges.same("most(0)", drum.most(0), NONE);
        edges.same("image()", drum.image(), NONE);
        edges.same("together()", drum.together(), NONE);
    }

    private static void p01_newObjectsShareNothing() {
        Edges.rich();
        edges.same("a new object", Edges.seen(new SlitDrum()), Edges.seen(new SlitDrum()));
        edges.same("wheels", new SlitDrum().count(0), 0);
    }

    // ---- 2: feed

    private static void p02_theHighestByteIsTheFirst() {
        SlitDrum drum = new SlitDrum();
        edges.same("feed", drum.feed(0x61626364, 0x65666768, 0x696a6b6c, 0x6d6e6f70, 0), 16);
        edges.same("text(2)", drum.text(STRIP), 0);
        for (int i = 0; i < 16; i++) {
            edges.same("picture(0, " + i + ")", drum.picture(0, i), i);
        }
    }

    private static void p02_theFifthNumberIsTheLast() {
        SlitDrum drum = new SlitDrum();
        edges.same("feed", drum.feed(0x61000000, 0, 0, 0, 0x62636465), 5);
        drum.text(STRIP);
        for (int i = 0; i < 5; i++) {
            edges.same("picture(0, " + i + ")", drum.picture(0, i), i);
        }
    }

    private static void p02_bytesOfZeroAreLeftOut() {
        SlitDrum drum = new SlitDrum();
        edges.same("feed", drum.feed(0x00610000, 0x00000062, 0x63000064, 0, 0x00650066), 6);
        drum.text(STRIP);
        for (int i = 0; i < 6; i++) {
            edges.same("picture(0, " + i + ")", drum.picture(0, i), i);
        }
    }

    private static void p02_zerosAloneAreNothing() {
        SlitDrum drum = fed(3);
        edges.same("feed of zeros", drum.feed(0, 0, 0, 0, 0), 3);
        edges.same("count(3)", drum.count(3), 3);
    }

    private static void p02_twentyBytesACall() {
        edges.same("feed", new SlitDrum().feed(-1, -1, -1, -1, -1), 20);
    }

    private static void p02_bytesAbove127AreBytesToo() {
        SlitDrum drum = new SlitDrum();
        edges.same("feed", drum.feed(0x61ff8001, 0, 0, 0, 0), 4);
        edges.same("fault(2): byte 255", drum.fault(STRIP), 1);
    }

    private static void p02_twoHundredAndFortyAreTaken() {
        SlitDrum drum = fed(220);
        edges.same("feed of the last twenty", drum.feed(-1, -1, -1, -1, -1), 240);
        edges.same("count(3)", drum.count(3), 240);
    }

    private static void p02_theTwoHundredAndFortyFirstIsRefused() {
        edges.refused("feed of one more", () -> fed(240), drum -> drum.feed(0, 0, 0x6100, 0, 0), NONE, Edges.NO_STATUS);
    }

    private static void p02_oneByteOfAnyWorthAnywhereIsOne() {
        for (int worth : new int[] {1, 2, 16, 127, 128, 255}) {
            for (int place = 0; place < 20; place++) {
                int[] five = new int[5];
                five[place / 4] = worth << 24 - place % 4 * 8;
                SlitDrum drum = fed(239);
                String what = "feed of " + worth + " at " + place;
                edges.same(what, drum.feed(five[0], five[1], five[2], five[3], five[4]), 240);
                edges.same(what + " to 240", drum.feed(five[0], five[1], five[2], five[3], five[4]), NONE);
                edges.same("count(3)", drum.count(3), 240);
            }
        }
    }

    private static void p02_tooManyAreRefusedAsAWhole() {
        edges.refused("feed of six to 235", () -> fed(235), drum -> drum.feed(-1, 0, 0, 0, 0x00610061), NONE,
                Edges.NO_STATUS);
        SlitDrum drum = fed(235);
        edges.same("feed of five to 235", drum.feed(-1, 0, 0, 0, 0x61), 240);
    }

    private static void p02_zerosFitAFullTape() {
        edges.same("feed of zeros to 240", fed(240).feed(0, 0, 0, 0, 0), 240);
    }

    // ---- 3: end

    private static void p03_belowZeroIsRefused() {
        for (int n : new int[] {-1, Edges.LEAST}) {
            edges.refused("end(" + n + ")", drum -> drum.end(n) ? 1 : 0, 0, Edges.NO_STATUS);
        }
    }

    private static void p03_moreThanThereAreIsRefused() {
        for (int n : new int[] {3, 240, Edges.MOST}) {
            edges.refused("end(" + n + ") of two", drum -> drum.end(n) ? 1 : 0, 0, Edges.NO_STATUS);
        }
    }

    private static void p03_asManyAsThereAre() {
        SlitDrum drum = fed(3);
        edges.same("end(3) of three", drum.end(3), true);
        edges.same("count(3)", drum.count(3), 3);
    }

    private static void p03_noneIsLeft() {
        SlitDrum drum = fed(3);
        edges.same("end(0)", drum.end(0), true);
        edges.same("count(3)", drum.count(3), 0);
    }

    private static void p03_anEmptyTape() {
        SlitDrum drum = new SlitDrum();
        edges.same("end(0)", drum.end(0), true);
        edges.same("end(1)", drum.end(1), false);
        edges.same("end(-1)", drum.end(-1), false);
    }

    private static void p03_aFullTape() {
        SlitDrum drum = fed(240);
        edges.same("end(241)", drum.end(241), false);
        edges.same("end(240)", drum.end(240), true);
        edges.same("end(239)", drum.end(239), true);
        edges.same("count(3)", drum.count(3), 239);
    }

    private static void p03_theFirstOnesStay() {
        SlitDrum drum = new SlitDrum();
        Checks.feed(drum, "abcd");
        drum.end(2);
        edges.same("feed goes on behind them", Checks.feed(drum, "z"), 3);
        drum.text(STRIP);
        edges.same("picture(0, 0)", drum.picture(0, 0), 0);
        edges.same("picture(0, 1)", drum.picture(0, 1), 1);
        edges.same("picture(0, 2)", drum.picture(0, 2), 25);
    }

    // ---- 4: fault

    private static void p04_noSuchSort() {
        for (int sort : new int[] {-1, 3, Edges.LEAST, Edges.MOST}) {
            edges.refused("fault(" + sort + ")", drum -> drum.fault(sort), -2, Edges.NO_STATUS);
        }
    }

    private static void p04_anEmptyTapeEndsTooEarly() {
        edges.fault(LANTERN, "", 0);
        edges.fault(LAW, "", 0);
        edges.fault(STRIP, "", 0);
    }

    private static void p04_blanksAloneEndTooEarly() {
        edges.fault(LANTERN, "   ", 3);
        edges.fault(LAW, "   ", 3);
        edges.fault(STRIP, "   ", 3);
    }

    private static void p04_theTapeStays() {
        SlitDrum drum = new SlitDrum();
        Checks.feed(drum, "w;x");
        edges.same("fault(0)", drum.fault(LANTERN), 2);
        edges.same("fault(0) once more", drum.fault(LANTERN), 2);
        edges.same("count(3)", drum.count(3), 3);
    }

    private static void p04_aFullTapeOfEachSort() {
        edges.fault(LANTERN, "w" + Edges.times(" ", 239), NONE);
        edges.fault(LAW, "y:" + Edges.times("v+", 118) + "1 ", NONE);
        edges.fault(LAW, "y:v" + Edges.times(";y:v", 59), NONE);
        edges.fault(STRIP, Edges.times(" ", 239) + "a", NONE);
        edges.fault(LAW, "y:" + Edges.times("v+", 119), 240);
        edges.fault(LANTERN, Edges.times(" ", 239) + "s", 240);
        edges.fault(STRIP, Edges.times(" ", 239) + "2", 240);
    }

    private static void p04_lanternWithoutAWheel() {
        edges.fault(LANTERN, "s", 1);
        edges.fault(LANTERN, "sf6", 3);
        edges.fault(LANTERN, "s  ", 3);
        edges.fault(LANTERN, "s;", 2);
    }

    private static void p04_lanternOfFourWheels() {
        edges.fault(LANTERN, "w", NONE);
        edges.fault(LANTERN, "w;w;w;w", NONE);
        edges.fault(LANTERN, "s;w;w;w;w", NONE);
    }

    private static void p04_lanternAFifthWheelIsTheFault() {
        edges.fault(LANTERN, "w;w;w;w;w", 8);
        edges.fault(LANTERN, "w;w;w;w; w", 9);
        edges.fault(LANTERN, "s;w;w;w;w;w", 10);
        edges.fault(LANTERN, "w;w;w;w;s;w", 10);
    }

    private static void p04_lanternASecondSIsTheFault() {
        edges.fault(LANTERN, "s;s", 2);
        edges.fault(LANTERN, "s;w;s", 4);
        edges.fault(LANTERN, "w;s;w;w;w; s", 11);
    }

    private static void p04_lanternClausesInAnyOrder() {
        edges.fault(LANTERN, "w;s", NONE);
        edges.fault(LANTERN, "w;w;s;w;w", NONE);
        edges.fault(LANTERN, "w;w;w;w;s", NONE);
    }

    private static void p04_lanternEndsBehindItsSemicolon() {
        edges.fault(LANTERN, "w;", 2);
        edges.fault(LANTERN, "w; ", 3);
        edges.fault(LANTERN, "w;;", 2);
        edges.fault(LANTERN, ";w", 0);
    }

    private static void p04_lanternWithoutASemicolon() {
        edges.fault(LANTERN, "ww", 1);
        edges.fault(LANTERN, "sw", 1);
        edges.fault(LANTERN, "w s", 2);
        edges.fault(LANTERN, "w,w", 1);
    }

    private static void p04_lanternItemsInAnyOrder() {
        edges.fault(LANTERN, "sk1o2f3;wr1p2b1v3", NONE);
        edges.fault(LANTERN, "so1;wp1", NONE);
    }

    private static void p04_lanternALetterThatWasThere() {
        edges.fault(LANTERN, "sf1f1;w", 3);
        edges.fault(LANTERN, "so1k1o1", 5);
        edges.fault(LANTERN, "sk1 k1", 4);
        edges.fault(LANTERN, "wv1v1", 3);
        edges.fault(LANTERN, "wb1v1b1", 5);
        edges.fault(LANTERN, "wp1v1b1p1", 7);
        edges.fault(LANTERN, "wr1r", 3);
        edges.fault(LANTERN, "wv1b1p1r1v1", 9);
    }

    private static void p04_lanternALetterOncePerClause() {
        edges.fault(LANTERN, "wv1;wv1;wv1;wv1", NONE);
    }

    private static void p04_lanternALetterOfTheOther() {
        edges.fault(LANTERN, "wf1", 1);
        edges.fault(LANTERN, "wo1", 1);
        edges.fault(LANTERN, "wk1", 1);
        edges.fault(LANTERN, "sv1", 1);
        edges.fault(LANTERN, "sb1", 1);
        edges.fault(LANTERN, "sp1", 1);
        edges.fault(LANTERN, "sr1", 1);
        edges.fault(LANTERN, "wy1", 1);
    }

    private static void p04_lanternALetterWithoutItsNumber() {
        edges.fault(LANTERN, "wv", 2);
        edges.fault(LANTERN, "wv ", 3);
        edges.fault(LANTERN, "wv;", 2);
        edges.fault(LANTERN, "wvp1", 2);
        edges.fault(LANTERN, "wv-1", 2);
        edges.fault(LANTERN, "w1", 1);
    }

    private static void p04_lanternFlashInBounds() {
        edges.fault(LANTERN, "w;sf1", NONE);
        edges.fault(LANTERN, "w;sf60", NONE);
        edges.fault(LANTERN, "w;sf0", 4);
        edges.fault(LANTERN, "w;sf00", 5);
        edges.fault(LANTERN, "w;sf61", 5);
        edges.fault(LANTERN, "w;sf99", 5);
    }

    private static void p04_lanternOilInBounds() {
        edges.fault(LANTERN, "w;so0", NONE);
        edges.fault(LANTERN, "w;so99", NONE);
        edges.fault(LANTERN, "w;so100", 6);
    }

    private static void p04_lanternCoinsInBounds() {
        edges.fault(LANTERN, "w;sk0", NONE);
        edges.fault(LANTERN, "w;sk99", NONE);
        edges.fault(LANTERN, "w;sk100", 6);
    }

    private static void p04_lanternSpeedInBounds() {
        edges.fault(LANTERN, "wv0", NONE);
        edges.fault(LANTERN, "wv9", NONE);
        edges.fault(LANTERN, "wv10", 3);
        edges.fault(LANTERN, "wv99", 3);
    }

    private static void p04_lanternBackInBounds() {
        edges.fault(LANTERN, "wb0", NONE);
        edges.fault(LANTERN, "wb1", NONE);
        edges.fault(LANTERN, "wb2", 2);
        edges.fault(LANTERN, "wb10", 3);
    }

    private static void p04_lanternPlaceInBounds() {
        edges.fault(LANTERN, "wp0", NONE);
        edges.fault(LANTERN, "wp15", NONE);
        edges.fault(LANTERN, "wp16", 3);
        edges.fault(LANTERN, "wp20", 3);
    }

    private static void p04_lanternStripInBounds() {
        edges.fault(LANTERN, "wr0", NONE);
        edges.fault(LANTERN, "wr5", NONE);
        edges.fault(LANTERN, "wr6", 2);
        edges.fault(LANTERN, "wr10", 3);
    }

    private static void p04_lanternTwoDigitsWithZeroAhead() {
        edges.fault(LANTERN, "sf01o00k09;wv09b01p00r05", NONE);
    }

    private static void p04_lanternAThirdDigitIsTheFault() {
        edges.fault(LANTERN, "sf123", 4);
        edges.fault(LANTERN, "sf601", 4);
        edges.fault(LANTERN, "wv001", 4);
        edges.fault(LANTERN, "wp150", 4);
        edges.fault(LANTERN, "wb0000", 4);
    }

    private static void p04_lanternAThirdDigitWhateverIsAhead() {
        edges.fault(LANTERN, "sf610", 4);
        edges.fault(LANTERN, "sf000", 4);
        edges.fault(LANTERN, "wv999", 4);
        edges.fault(LANTERN, "wb200", 4);
        edges.fault(LANTERN, "wr660", 4);
    }

    private static void p04_lanternBlanksBetweenAllSigns() {
        edges.fault(LANTERN, "  s  f  60  o  0 ;  w  v  9  b  1  p  15  r  5  ", NONE);
    }

    private static void p04_lanternNoBlankWithinANumber() {
        edges.fault(LANTERN, "wp1 5", 4);
        edges.fault(LANTERN, "w;sf6 0", 6);
    }

    private static void p04_onlyByte32IsABlank() {
        edges.fault(LANTERN, "w\t", 1);
        edges.fault(LANTERN, "\nw", 0);
        edges.fault(LAW, "y\t:v", 1);
        edges.fault(STRIP, "a\n", 1);
        edges.fault(STRIP, "a" + (char) 160, 1);
    }

    private static void p04_lawOfOneClauseAtLeast() {
        edges.fault(LAW, "y:0", NONE);
        edges.fault(LAW, ";y:0", 0);
        edges.fault(LAW, "y:0;", 4);
        edges.fault(LAW, "y:0;;y:0", 4);
    }

    private static void p04_lawEndsTooEarly() {
        edges.fault(LAW, "y", 1);
        edges.fault(LAW, "y:", 2);
        edges.fault(LAW, "y:v+", 4);
        edges.fault(LAW, "y:v*", 4);
        edges.fault(LAW, "y:[v", 4);
        edges.fault(LAW, "y:(v=1", 6);
        edges.fault(LAW, "y:(v=1)", 7);
        edges.fault(LAW, "y:v=", 4);
        edges.fault(LAW, "y:v=1", 5);
        edges.fault(LAW, "y:v=1?", 6);
        edges.fault(LAW, "y:v=1&", 6);
        edges.fault(LAW, "y:v=1|", 6);
        edges.fault(LAW, "y:!", 3);
    }

    private static void p04_lawNumbersOfFourDigits() {
        edges.fault(LAW, "y:0", NONE);
        edges.fault(LAW, "y:9999", NONE);
        edges.fault(LAW, "y:0000", NONE);
    }

    private static void p04_lawAFifthDigitIsTheFault() {
        edges.fault(LAW, "y:10000", 6);
        edges.fault(LAW, "y:00001", 6);
        edges.fault(LAW, "y:[1-99999", 9);
        edges.fault(LAW, "y:v=123456", 8);
    }

    private static void p04_lawNoBlankWithinANumber() {
        edges.fault(LAW, "y:1 2", 4);
        edges.fault(LAW, "y:1234 5", 7);
    }

    private static void p04_lawBlanksBetweenAllSigns() {
        edges.fault(LAW, " y : ! ( v > 1 | p = 2 & n < 3 ) ? [ l - 4 ] * t / f + 5 ; y : 0 ", NONE);
    }

    private static void p04_lawSixWithinOneAnother() {
        edges.fault(LAW, "y:((((((v=1))))))?1", NONE);
        edges.fault(LAW, "y:[[[[[[v]]]]]]", NONE);
        edges.fault(LAW, "y:!!!!!!v=1?1", NONE);
        edges.fault(LAW, "y:(!(!([v]=1)))?1", NONE);
        edges.fault(LAW, "y:v=1?[[[[[[v]]]]]]", NONE);
        edges.fault(LAW, "y:v=[[[[[[v]]]]]]?1", NONE);
    }

    private static void p04_lawASeventhBracketIsTheFault() {
        edges.fault(LAW, "y:(((((((v=1", 8);
        edges.fault(LAW, "y:[[[[[[[v", 8);
        edges.fault(LAW, "y:!!!!!!!v=1?1", 8);
        edges.fault(LAW, "y:!(!(!([v]=1", 8);
        edges.fault(LAW, "y:!(!(!(v=1+[1", 12);
        edges.fault(LAW, "y:!!!!!![1]=1?1", 8);
        edges.fault(LAW, "y:((((((!v=1", 8);
        edges.fault(LAW, "y:!!!!!!(v=1)?1", 8);
        edges.fault(LAW, "y:v=1?[[[[[[[v", 12);
        edges.fault(LAW, "y:v=[[[[[[[v", 10);
        edges.fault(LAW, "y:v=1&(((((((v", 12);
        edges.fault(LAW, "y:v=1|!!!!!!!v", 12);
    }

    private static void p04_lawMoreThanSixBesideOneAnother() {
        edges.fault(LAW, "y:" + Edges.times("[v]+", 20) + "1", NONE);
        edges.fault(LAW, "y:" + Edges.times("(v=1)&", 20) + "v=1?1", NONE);
        edges.fault(LAW, "y:" + Edges.times("!v=1|", 20) + "v=1?1", NONE);
        edges.fault(LAW, "y:[[[[[[1]]]]]]*[[[[[[1]]]]]]", NONE);
    }

    private static void p04_lawAClauseThatBeginsAsACondition() {
        edges.fault(LAW, "y:(1)", 4);
        edges.fault(LAW, "y:(v=1)+1", 7);
        edges.fault(LAW, "y:(v=1);y:1", 7);
        edges.fault(LAW, "y:!1", 4);
        edges.fault(LAW, "y:!v=1;", 6);
    }

    private static void p04_lawOneConditionAClause() {
        edges.fault(LAW, "y:1?1", 3);
        edges.fault(LAW, "y:v=1?v=2", 7);
        edges.fault(LAW, "y:v=1?1?1", 7);
        edges.fault(LAW, "y:v=1?(v", 6);
        edges.fault(LAW, "y:v=1?!v", 6);
    }

    private static void p04_lawOneComparisonAUnit() {
        edges.fault(LAW, "y:v=1=1?1", 5);
        edges.fault(LAW, "y:v<1>1?1", 5);
        edges.fault(LAW, "y:v<=1?1", 4);
        edges.fault(LAW, "y:v=1&1?1", 7);
        edges.fault(LAW, "y:v=1|1?1", 7);
        edges.fault(LAW, "y:v&p=1?1", 3);
    }

    private static void p04_lawSomethingIsMissingAheadOfWhatGoesOn() {
        edges.fault(LAW, "y:?1", 2);
        edges.fault(LAW, "y:v=?1", 4);
        edges.fault(LAW, "y:=1?1", 2);
        edges.fault(LAW, "y:v<&v=1?1", 4);
        edges.fault(LAW, "y:v>|v=1?1", 4);
        edges.fault(LAW, "y:!v?1", 4);
        edges.fault(LAW, "y:!?1", 3);
        edges.fault(LAW, "y:!!v&v=1?1", 5);
        edges.fault(LAW, "y:v=1&?1", 6);
        edges.fault(LAW, "y:v=1|?1", 6);
        edges.fault(LAW, "y:v=1&&v=1?1", 6);
        edges.fault(LAW, "y:v=1||v=1?1", 6);
        edges.fault(LAW, "y:(v=1&)?1", 7);
        edges.fault(LAW, "y:(v=)?1", 5);
        edges.fault(LAW, "y:(!v)?1", 5);
        edges.fault(LAW, "y:v+=1?1", 4);
        edges.fault(LAW, "y:v=1+?1", 6);
        edges.fault(LAW, "y:v=1*?1", 6);
        edges.fault(LAW, "y:v=[1?1", 6);
        edges.fault(LAW, "y:v=[1+]?1", 7);
        edges.fault(LAW, "y:v=1?;y:1", 6);
        edges.fault(LAW, "y:v=1?1+;y:1", 8);
        edges.fault(LAW, "y:;y:1", 2);
        edges.fault(LAW, "y;y:1", 1);
    }

    private static void p04_lawNoSignAheadOfANumber() {
        edges.fault(LAW, "y:-1", 2);
        edges.fault(LAW, "y:+1", 2);
        edges.fault(LAW, "y:v+-1", 4);
        edges.fault(LAW, "y:[-1]", 3);
        edges.fault(LAW, "y:*1", 2);
    }

    private static void p04_lawBracketsOfTheOtherSort() {
        edges.fault(LAW, "y:[v)", 4);
        edges.fault(LAW, "y:(v=1]", 6);
        edges.fault(LAW, "y:[v=1]", 4);
        edges.fault(LAW, "y:v=(1)?1", 4);
        edges.fault(LAW, "y:v]", 3);
        edges.fault(LAW, "y:v=1)", 5);
        edges.fault(LAW, "y:[]", 3);
        edges.fault(LAW, "y:()", 3);
    }

    private static void p04_lawSixLettersAlone() {
        edges.fault(LAW, "y:v+p+l+n+t+f", NONE);
        for (String letter : "a b c d e g h i j k m o q r s u w x y z V P".split(" ")) {
            edges.fault(LAW, "y:" + letter, 2);
        }
    }

    private static void p04_lawTwoAtomsWithoutASign() {
        edges.fault(LAW, "y:vp", 3);
        edges.fault(LAW, "y:v1", 3);
        edges.fault(LAW, "y:1v", 3);
        edges.fault(LAW, "y:v[1]", 3);
        edges.fault(LAW, "yv", 1);
        edges.fault(LAW, "z:v", 0);
    }

    private static void p04_stripOfOnePicture() {
        edges.fault(STRIP, "a", NONE);
        edges.fault(STRIP, "z", NONE);
        edges.fault(STRIP, ".", NONE);
    }

    private static void p04_stripOfSixteen() {
        edges.fault(STRIP, "abcdefghijklmnop", NONE);
        edges.fault(STRIP, "9a7b", NONE);
        edges.fault(STRIP, "8.8.", NONE);
        edges.fault(STRIP, "2a2b2c2d2e2f2g2h", NONE);
    }

    private static void p04_stripTheSeventeenthIsTheFault() {
        edges.fault(STRIP, "abcdefghijklmnopq", 16);
        edges.fault(STRIP, "9a7b.", 4);
        edges.fault(STRIP, "9a7b c", 5);
    }

    private static void p04_stripTooManyByADigit() {
        edges.fault(STRIP, "9a8b", 3);
        edges.fault(STRIP, "9a8 b", 4);
        edges.fault(STRIP, "9a6b2c", 5);
        edges.fault(STRIP, "9a9.", 3);
        edges.fault(STRIP, "9a7b2c", 5);
    }

    private static void p04_stripDigitsOfTwoToNine() {
        edges.fault(STRIP, "2a", NONE);
        edges.fault(STRIP, "9a", NONE);
    }

    private static void p04_stripADigit0Or1IsTheFault() {
        edges.fault(STRIP, "0a", 0);
        edges.fault(STRIP, "1a", 0);
        edges.fault(STRIP, "a0b", 1);
        edges.fault(STRIP, "a1b", 1);
        edges.fault(STRIP, "10a", 0);
        edges.fault(STRIP, "9a7b1", 4);
    }

    private static void p04_stripADigitBehindADigit() {
        edges.fault(STRIP, "22a", 1);
        edges.fault(STRIP, "2 2a", 2);
        edges.fault(STRIP, "21a", 1);
    }

    private static void p04_stripEndsBehindItsDigit() {
        edges.fault(STRIP, "2", 1);
        edges.fault(STRIP, "a9 ", 3);
    }

    private static void p04_stripOtherSigns() {
        edges.fault(STRIP, "A", 0);
        edges.fault(STRIP, "`", 0);
        edges.fault(STRIP, "{", 0);
        edges.fault(STRIP, "a-", 1);
        edges.fault(STRIP, "a/", 1);
        edges.fault(STRIP, "a:", 1);
        edges.fault(STRIP, "2;", 1);
    }

    private static void p04_stripBlanksBetweenAllSigns() {
        edges.fault(STRIP, "  a  2  b  .  9  . ", NONE);
    }

    // ---- 5: text

    private static void p05_noSuchSort() {
        for (int sort : new int[] {-1, 3, Edges.LEAST, Edges.MOST}) {
            edges.refused("text(" + sort + ")", drum -> drum.text(sort), NONE, Edges.NO_STATUS);
        }
    }

    private static void p05_aFaultIsRefused() {
        edges.refused("text(0) of 'ab'", drum -> drum.text(LANTERN), NONE, Edges.NO_STATUS);
        edges.refused("text(1) of 'ab'", drum -> drum.text(LAW), NONE, Edges.NO_STATUS);
        edges.refused("text(2) of 'w;'", () -> withTape("w;"), drum -> drum.text(STRIP), NONE, Edges.NO_STATUS);
        edges.refused("text(0) of 'w;'", () -> withTape("w;"), drum -> drum.text(LANTERN), NONE, Edges.NO_STATUS);
        edges.refused("text(0) of 's'", () -> withTape("s"), drum -> drum.text(LANTERN), NONE, Edges.NO_STATUS);
        edges.refused("text(1) of 'y:1;y'", () -> withTape("y:1;y"), drum -> drum.text(LAW), NONE, Edges.NO_STATUS);
    }

    private static void p05_anEmptyTapeIsRefused() {
        for (int sort = 0; sort <= 2; sort++) {
            int one = sort;
            edges.refused("text(" + one + ")", () -> withTape(""), drum -> drum.text(one), NONE, Edges.NO_STATUS);
        }
    }

    private static SlitDrum withTape(String tape) {
        SlitDrum drum = Edges.rich();
        drum.end(0);
        Checks.feed(drum, tape);
        return drum;
    }

    private static void p05_theTapeIsEmptyThen() {
        SlitDrum drum = new SlitDrum();
        Checks.tell(drum, STRIP, "ab");
        edges.same("count(3) behind a strip", drum.count(3), 0);
        Checks.tell(drum, LAW, "y:1");
        edges.same("count(3) behind a law", drum.count(3), 0);
        Checks.tell(drum, LANTERN, "w");
        edges.same("count(3) behind a lantern", drum.count(3), 0);
    }

    private static void p05_lanternAnswersItsWheels() {
        SlitDrum drum = new SlitDrum();
        edges.same("one", Checks.tell(drum, LANTERN, "w"), 1);
        edges.same("four", Checks.tell(drum, LANTERN, "w;w;s;w;w"), 4);
        edges.same("two, with s last", Checks.tell(drum, LANTERN, "w;w;s"), 2);
    }

    private static void p05_fourLawsAndNoMore() {
        SlitDrum drum = new SlitDrum();
        for (int i = 0; i < 4; i++) {
            edges.same("law " + i, Checks.tell(drum, LAW, "y:" + i), i);
        }
        edges.same("a fifth", Checks.tell(drum, LAW, "y:9"), NONE);
        edges.same("count(1)", drum.count(1), 4);
        edges.same("the tape stays", drum.count(3), 3);
        edges.same("there is no law 4", drum.law(4), false);
        edges.same("a strip still can be told", Checks.tell(drum, STRIP, "a"), 0);
    }

    private static void p05_sixStripsAndNoMore() {
        SlitDrum drum = new SlitDrum();
        for (int i = 0; i < 6; i++) {
            edges.same("strip " + i, Checks.tell(drum, STRIP, "" + (char) ('a' + i)), i);
        }
        edges.same("a seventh", Checks.tell(drum, STRIP, "z"), NONE);
        edges.same("count(2)", drum.count(2), 6);
        edges.same("the tape stays", drum.count(3), 1);
        edges.same("picture(5, 0)", drum.picture(5, 0), 5);
        edges.same("picture(6, 0)", drum.picture(6, 0), NONE);
        edges.same("a lantern still can be told", Checks.tell(drum, LANTERN, "wr5"), 1);
        edges.wheelIs(drum, 0, 1, 0, 0, 5, 1, 5);
    }

    private static void p05_whatIsNotToldIsAsWithout() {
        SlitDrum drum = Checks.drum("w", "ab");
        edges.same("flash", drum.rule(0), 6);
        edges.same("oil", drum.rule(1), 40);
        edges.same("coins", drum.rule(2), 20);
        edges.wheelIs(drum, 0, 1, 0, 0, 0, 2, 0);
    }

    private static void p05_withoutIsNotAsTheOneAhead() {
        SlitDrum drum = Checks.drum("sf9o8k7;wv5b1p1r1", "ab", "abc");
        Checks.tell(drum, LANTERN, "s;w");
        edges.same("flash", drum.rule(0), 6);
        edges.same("oil", drum.rule(1), 40);
        edges.same("coins", drum.rule(2), 20);
        edges.wheelIs(drum, 0, 1, 0, 0, 0, 2, 0);
        Checks.tell(drum, LANTERN, "wv7;w");
        edges.wheelIs(drum, 1, 1, 0, 0, 0, 2, 0);
    }

    private static void p05_theLeastThatCanBeTold() {
        SlitDrum drum = Checks.drum("sf1o0k0;wv0b0p0r0", "ab");
        edges.same("flash", drum.rule(0), 1);
        edges.same("oil", drum.rule(1), 0);
        edges.same("coins", drum.rule(2), 0);
        edges.wheelIs(drum, 0, 0, 0, 0, 0, 2, 0);
    }

    private static void p05_theMostThatCanBeTold() {
        String all = "abcdefghijklmnop";
        SlitDrum drum = Checks.drum("sf60o99k99;wv9b1p15r5", all, all, all, all, all, all);
        edges.same("flash", drum.rule(0), 60);
        edges.same("oil", drum.rule(1), 99);
        edges.same("coins", drum.rule(2), 99);
        edges.wheelIs(drum, 0, 9, 1, 15, 5, 16, 15);
    }

    private static void p05_placeIsToldModuloLong() {
        SlitDrum drum = Checks.drum("wp4;wp5;wp9;wp15", "abcde");
        edges.same("4 of 5", drum.wheel(0, 2), 4);
        edges.same("5 of 5", drum.wheel(1, 2), 0);
        edges.same("9 of 5", drum.wheel(2, 2), 4);
        edges.same("15 of 5", drum.wheel(3, 2), 0);
    }

    private static void p05_placeOfABareWheelIsZero() {
        SlitDrum drum = Checks.drum("wp15r1;wp1r5", "abcde");
        edges.wheelIs(drum, 0, 1, 0, 0, 1, 1, Edges.BLANK);
        edges.wheelIs(drum, 1, 1, 0, 0, 5, 1, Edges.BLANK);
    }

    private static void p05_aStripToldLaterComesOnItsWheels() {
        SlitDrum drum = Checks.drum("wp7r1;wp7r0;wr2;wr1", "abcde");
        edges.same("text(2)", Checks.tell(drum, STRIP, "xyz"), 1);
        edges.wheelIs(drum, 0, 1, 0, 0, 1, 3, 23);
        edges.wheelIs(drum, 1, 1, 0, 2, 0, 5, 2);
        edges.wheelIs(drum, 2, 1, 0, 0, 2, 1, Edges.BLANK);
        edges.wheelIs(drum, 3, 1, 0, 0, 1, 3, 23);
    }

    private static void p05_aStripToldLaterIsNoAct() {
        SlitDrum drum = Checks.drum("wr1", "abcde");
        drum.about(0);
        Checks.tell(drum, STRIP, "xyz");
        edges.same("count(9)", drum.count(9), 1);
        edges.same("undo()", drum.undo(), 0);
        edges.wheelIs(drum, 0, 1, 0, 0, 1, 3, 23);
    }

    private static void p05_aLanternKeepsLawsStripsTouchStatus() {
        SlitDrum drum = Edges.rich();
        drum.touch(8);
        drum.ticks(0);
        drum.flash(4);
        edges.same("text(0)", Checks.tell(drum, LANTERN, "w;w"), 2);
        edges.same("laws", drum.count(1), 2);
        edges.same("the law that holds", drum.count(4), 0);
        edges.same("strips", drum.count(2), 3);
        edges.same("touch", drum.count(6), 8);
        edges.statuses(drum, 0, 1, 1, 0, 0);
    }

    private static void p05_aLanternEmptiesAllElse() {
        SlitDrum drum = Edges.rich();
        edges.same("rows ahead of it", drum.count(8), 2);
        Checks.tell(drum, LANTERN, "w;w");
        edges.same("tick", drum.count(5), 0);
        edges.same("noted", drum.count(7), 0);
        edges.same("rows", drum.count(8), 0);
        edges.same("log(0, 0)", drum.log(0, 0), NONE);
        edges.same("acts", drum.count(9), 0);
        edges.same("undo()", drum.undo(), NONE);
        edges.same("back()", drum.back(), NONE);
        edges.noSuchWheel(drum, 2, 0);
    }

    private static void p05_aLawToldDoesNotHoldYet() {
        SlitDrum drum = Checks.drum("wv1", "abcd");
        Checks.tell(drum, LAW, "y:3");
        edges.same("count(4)", drum.count(4), NONE);
        drum.ticks(1);
        edges.same("by speed", drum.wheel(0, 2), 1);
    }

    private static void p05_digitsTellAsManyPictures() {
        SlitDrum drum = new SlitDrum();
        Checks.tell(drum, STRIP, "2a3.z9b");
        int[] due = {0, 0, 26, 26, 26, 25, 1, 1, 1, 1, 1, 1, 1, 1, 1};
        edges.same("how many", drum.picture(0, NONE), due.length);
        for (int i = 0; i < due.length; i++) {
            edges.same("picture(0, " + i + ")", drum.picture(0, i), due[i]);
        }
    }
}
