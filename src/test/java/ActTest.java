/** Promises 11 to 18 and 20: ticks, flash, speed, about, push, puts, oil, give, status. */
public final class ActTest {
    private static final Checks checks = new Checks("ActTest");

    public static void main(String[] args) {
        withoutLantern();
        ticking();
        lastTick();
        winning();
        flashing();
        speeding();
        turning();
        pushing();
        putting();
        oiling();
        giving();
        checks.same("status(-1)", new SlitDrum().status(-1), -1);
        checks.same("status(5)", new SlitDrum().status(5), -1);
        checks.end();
    }

    private static void statuses(SlitDrum drum, int... due) {
        for (int what = 0; what < 5; what++) {
            checks.same("status(" + what + ")", drum.status(what), due[what]);
        }
    }

    private static void withoutLantern() {
        SlitDrum drum = new SlitDrum();
        checks.same("ticks", drum.ticks(99), -1);
        checks.same("flash", drum.flash(99), -1);
        checks.same("oil", drum.oil(99), -1);
        checks.same("give", drum.give(99), -1);
        statuses(drum, 4, 0, 0, 0, 0);
    }

    private static void ticking() {
        SlitDrum drum = Checks.drum("sf2o3;wv1;wv2b1p1", "abcd");
        checks.same("ticks(0)", drum.ticks(0), -1);
        checks.same("ticks(61)", drum.ticks(61), -1);
        statuses(drum, 0, 2, 0, 0, 0);
        checks.same("ticks(2)", drum.ticks(2), 2);
        checks.same("place", drum.wheel(0, 2), 2);
        checks.same("place back", drum.wheel(1, 2), 1);
        checks.same("oil", drum.rule(1), 1);
        checks.same("ticks(60)", drum.ticks(60), 62);
        checks.same("no oil, no move", drum.wheel(0, 2), 3);
        checks.same("no oil", drum.wheel(1, 2), 3);
        checks.same("oil", drum.rule(1), 0);
        checks.same("rows", drum.count(8), 31);
        checks.same("40 acts", drum.count(9), 40);
        checks.same("log(0, 0)", drum.log(0, 0), 3);
        checks.same("log(30, 0)", drum.log(30, 0), 2);
        checks.same("log(30, 1)", drum.log(30, 1), 1);
        checks.same("log(30, 2)", drum.log(30, 2), 26);
    }

    private static void lastTick() {
        SlitDrum drum = Checks.drum("w", "ab");
        for (int i = 0; i < 166; i++) {
            drum.ticks(60);
        }
        checks.same("near the end", drum.count(5), 9960);
        checks.same("beyond", drum.ticks(40), -1);
        checks.same("beyond, years", drum.years(40, 1), -1);
        statuses(drum, 0, 0, 0, 0, 1);
        checks.same("out of bounds first", drum.ticks(61), -1);
        statuses(drum, 0, 1, 0, 0, 1);
        checks.same("to the last one", drum.ticks(39), 9999);
        checks.same("beyond", drum.ticks(1), -1);
        checks.same("years beyond", drum.years(1, 1), -1);
        statuses(drum, 0, 1, 0, 0, 2);
        checks.same("sight goes on", drum.at(0, 1), 0);
        drum.undo();
        checks.same("years to it", drum.years(1, 1), 9999);
    }

    private static void winning() {
        SlitDrum drum = Checks.drum("sf2o0k0;wp1;wp1", "ab");
        drum.ticks(1);
        checks.same("not at a flash", drum.rule(2), 0);
        drum.ticks(1);
        checks.same("both alike", drum.rule(2), 1);
        SlitDrum blank = Checks.drum("sf1o0k0;wp1;wp1", "a.");
        blank.ticks(5);
        checks.same("blank ones", blank.rule(2), 0);
        SlitDrum unlike = Checks.drum("sf1o0k0;w;w;wp1", "ab");
        unlike.ticks(5);
        checks.same("not all", unlike.rule(2), 0);
        SlitDrum first = Checks.drum("sf1o0k0;wp1;w;w;w", "ab");
        first.ticks(5);
        checks.same("not the first", first.rule(2), 0);
        checks.same("four in the log", first.log(0, 0) * 1000 + first.log(0, 3), 1000);
        SlitDrum four = Checks.drum("sf1k0;wv1;wv1;wv3b1;wv5", "abcd");
        four.ticks(5);
        checks.same("all four", four.rule(2), 5);
        SlitDrum single = Checks.drum("sf1o0k0;w", "ab");
        single.ticks(5);
        checks.same("one wheel", single.rule(2), 0);
        SlitDrum rich = Checks.drum("sf1o0k99;w;w", "ab");
        for (int i = 0; i < 18; i++) {
            rich.give(50);
        }
        rich.ticks(3);
        checks.same("999 at most", rich.rule(2), 999);
    }

    private static void flashing() {
        SlitDrum drum = Checks.drum("sf5;w", "ab");
        checks.same("flash(0)", drum.flash(0), -1);
        checks.same("flash(61)", drum.flash(61), -1);
        checks.same("flash(5)", drum.flash(5), -1);
        statuses(drum, 0, 2, 1, 0, 0);
        checks.same("flash(60)", drum.flash(60), 5);
        checks.same("flash(1)", drum.flash(1), 60);
        checks.same("rule", drum.rule(0), 1);
        checks.same("acts", drum.count(9), 2);
    }

    private static void speeding() {
        SlitDrum drum = Checks.drum("sk2;wv5;w", "ab");
        checks.same("no wheel", drum.speed(2, 99), -1);
        checks.same("no wheel", drum.speed(-1, 1), -1);
        checks.same("out", drum.speed(0, 10), -1);
        checks.same("out", drum.speed(0, -1), -1);
        checks.same("so", drum.speed(0, 5), -1);
        checks.same("speed", drum.speed(0, 0), 5);
        checks.same("speed", drum.speed(0, 9), 0);
        checks.same("coins", drum.rule(2), 0);
        checks.same("so ahead of coins", drum.speed(0, 9), -1);
        checks.same("no coin", drum.speed(0, 8), -1);
        statuses(drum, 2, 2, 2, 1, 0);
        checks.same("as it was", drum.wheel(0, 0), 9);
    }

    private static void turning() {
        SlitDrum drum = Checks.drum("sk0;wv1p1;wb1", "abc");
        checks.same("no wheel", drum.about(2), -1);
        checks.same("no wheel", drum.about(-1), -1);
        statuses(drum, 2, 0, 0, 0, 0);
        checks.same("about", drum.about(0), 1);
        checks.same("about", drum.about(1), 0);
        drum.ticks(2);
        checks.same("went back", drum.wheel(0, 2), 2);
        checks.same("about", drum.about(0), 0);
        checks.same("told", drum.wheel(0, 1), 0);
    }

    private static void pushing() {
        SlitDrum drum = Checks.drum("sk2;wp1;wr5", "abcd");
        checks.same("no wheel", drum.push(2, 99), -1);
        checks.same("out", drum.push(0, 0), -1);
        checks.same("out", drum.push(0, 10), -1);
        statuses(drum, 1, 2, 0, 0, 0);
        checks.same("push", drum.push(0, 9), 2);
        checks.same("push of a bare one", drum.push(1, 9), 0);
        checks.same("no coin", drum.push(0, 1), -1);
        statuses(drum, 1, 2, 0, 1, 0);
        checks.same("coins", drum.rule(2), 0);
    }

    private static void putting() {
        SlitDrum drum = Checks.drum("sk4;wp3;wr5", "abcd", "xyz");
        checks.same("no wheel", drum.puts(2, 0), -1);
        checks.same("no strip", drum.puts(0, 2), -1);
        checks.same("no strip", drum.puts(1, 5), -1);
        checks.same("no strip", drum.puts(0, -1), -1);
        checks.same("on it", drum.puts(0, 0), -1);
        statuses(drum, 4, 0, 1, 0, 0);
        checks.same("puts", drum.puts(0, 1), 3);
        checks.same("place modulo long", drum.wheel(0, 2), 0);
        checks.same("number", drum.wheel(0, 3), 1);
        checks.same("puts on a bare one", drum.puts(1, 0), 4);
        checks.same("coins", drum.rule(2), 0);
        checks.same("on it ahead of coins", drum.puts(1, 0), -1);
        drum.give(1);
        checks.same("too few", drum.puts(0, 0), -1);
        statuses(drum, 4, 0, 2, 1, 0);
    }

    private static void oiling() {
        SlitDrum drum = Checks.drum("so99k20;w", "ab");
        checks.same("out", drum.oil(0), -1);
        checks.same("out", drum.oil(31), -1);
        checks.same("oil(1)", drum.oil(1), 100);
        checks.same("a coin for one", drum.rule(2), 19);
        checks.same("oil(30)", drum.oil(30), 130);
        checks.same("15 for 30", drum.rule(2), 4);
        checks.same("too dear", drum.oil(9), -1);
        checks.same("oil(8)", drum.oil(8), 138);
        statuses(drum, 0, 2, 0, 1, 0);
        for (int i = 0; i < 19; i++) {
            drum.give(50);
        }
        for (int i = 0; i < 28; i++) {
            drum.oil(30);
        }
        checks.same("oil", drum.rule(1), 978);
        checks.same("above 999", drum.oil(22), -1);
        checks.same("999", drum.oil(21), 999);
        statuses(drum, 0, 2, 0, 2, 0);
        drum.touch(0);
        drum.years(1, 5);
        checks.same("years: 999 at most", drum.rule(1), 998);
    }

    private static void giving() {
        SlitDrum drum = Checks.drum("sk48;w", "ab");
        checks.same("out", drum.give(0), -1);
        checks.same("out", drum.give(51), -1);
        for (int i = 1; i <= 19; i++) {
            checks.same("give", drum.give(50), 48 + 50 * i);
        }
        checks.same("above 999", drum.give(2), -1);
        checks.same("999", drum.give(1), 999);
        checks.same("above 999", drum.give(1), -1);
        statuses(drum, 0, 2, 0, 2, 0);
        checks.same("acts", drum.count(9), 20);
    }
}
