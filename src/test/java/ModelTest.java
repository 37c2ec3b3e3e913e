import java.util.NoSuchElementException;
import java.util.Random;

/** Runs of calls by chance, each answered by SlitDrum and by PlainDrum alike; and texts by chance. */
public final class ModelTest {
    private static final Checks checks = new Checks("ModelTest");
    private static Random random;

    public static void main(String[] args) {
        int runs = args.length > 0 ? Integer.parseInt(args[0]) : 60;
        for (int run = 0; run < runs && checks.isRight(); run++) {
            random = new Random(run);
            texts();
            run(run);
        }
        checks.end();
    }

    // ---- texts

    private static int any(int n) {
        return random.nextInt(n);
    }

    private static String gap() {
        return any(6) == 0 ? " ".repeat(1 + any(2)) : "";
    }

    private static String anyLantern() {
        StringBuilder text = new StringBuilder(gap());
        int wheels = 1 + any(4);
        int rules = any(wheels + 2);
        for (int w = 0; w < wheels; w++) {
            if (rules == w) {
                text.append("s").append(items("fok", 61, 100, 100)).append(gap()).append(";").append(gap());
            }
            text.append("w").append(items("vbpr", 10, 2, 16, 6)).append(gap());
            text.append(w < wheels - 1 ? ";" + gap() : "");
        }
        return text.toString();
    }

    private static String items(String letters, int... below) {
        StringBuilder items = new StringBuilder();
        int from = any(letters.length());
        for (int i = 0; i < letters.length(); i++) {
            int which = (from + i) % letters.length();
            if (any(4) != 0) {
                int value = any(below[which]);
                value = letters.charAt(which) == 'f' ? Math.max(1, any(3) == 0 ? value : value % 7) : value;
                items.append(gap()).append(letters.charAt(which)).append(gap());
                items.append(value < 10 && any(5) == 0 ? "0" : "").append(value);
            }
        }
        return items.toString();
    }

    private static String anyLaw() {
        String text = "";
        do {
            text = "";
            int clauses = 1 + any(3);
            for (int c = 0; c < clauses; c++) {
                text += (c > 0 ? ";" : "") + gap() + "y" + gap() + ":" + gap();
                text += any(3) > 0 ? condition(0) + "?" : "";
                text += sum(0) + gap();
            }
        } while (text.length() > 240);
        return text;
    }

    private static String condition(int depth) {
        return truth(depth) + (any(4) == 0 ? "|" + gap() + condition(depth) : "");
    }

    private static String truth(int depth) {
        return unit(depth) + (any(4) == 0 ? "&" + gap() + truth(depth) : "");
    }

    private static String unit(int depth) {
        if (depth < 6 && any(4) == 0) {
            return "!" + gap() + unit(depth + 1);
        }
        if (depth < 6 && any(4) == 0) {
            return "(" + gap() + condition(depth + 1) + ")" + gap();
        }
        return sum(depth) + "=<>".charAt(any(3)) + gap() + sum(depth);
    }

    private static String sum(int depth) {
        return term(depth) + (any(3) == 0 ? "+-".charAt(any(2)) + gap() + sum(depth) : "");
    }

    private static String term(int depth) {
        return atom(depth) + (any(3) == 0 ? "*/".charAt(any(2)) + gap() + term(depth) : "");
    }

    private static String atom(int depth) {
        int kind = any(8);
        if (kind == 0 && depth < 6) {
            return "[" + gap() + sum(depth + 1) + "]" + gap();
        }
        if (kind < 4) {
            int most = new int[] {3, 10, 30, 10000}[any(4)];
            return any(most) + gap();
        }
        return "vplntf".charAt(any(6)) + gap();
    }

    private static String anyStrip() {
        StringBuilder text = new StringBuilder(gap());
        int letters = 1 + any(4);
        int size = 1 + any(16);
        while (size > 0) {
            int times = any(4) == 0 ? 2 + any(8) : 1;
            times = times > size ? 1 : times;
            size -= times;
            int picture = any(letters + 1);
            text.append(times > 1 ? times + gap() : "");
            text.append(picture == letters ? '.' : (char) ('a' + picture)).append(gap());
        }
        return text.toString();
    }

    private static String anyText(int sort) {
        return sort == 0 ? anyLantern() : sort == 1 ? anyLaw() : anyStrip();
    }

    private static String spoiled(String text, int sort) {
        String signs = "swfokvbprylnt:;?!&|()[]=<>+-*/0123456789 .aAz" + (char) 200;
        StringBuilder spoiled = new StringBuilder(text);
        for (int i = any(3); i >= 0; i--) {
            int where = any(spoiled.length() + 1);
            char sign = any(2) == 0 && text.length() > 0 ? text.charAt(any(text.length())) : signs.charAt(any(signs.length()));
            switch (any(5)) {
                case 0: spoiled.setLength(where); break;
                case 1: spoiled.insert(where, sign); break;
                case 2: spoiled.insert(where, anyText(sort)); break;
                case 3: spoiled.delete(where, Math.min(spoiled.length(), where + 1)); break;
                default: spoiled.replace(where, Math.min(spoiled.length(), where + 1), "" + sign); break;
            }
        }
        return spoiled.length() > 240 ? spoiled.substring(0, 240) : spoiled.toString();
    }

    private static void texts() {
        SlitDrum drum = new SlitDrum();
        for (int i = 0; i < 60; i++) {
            int sort = i % 3;
            String text = anyText(sort);
            checks.same("'" + text + "' is whole", Checks.faultOf(drum, sort, text), -1);
            String spoiled = spoiled(text, sort);
            int due = sort == 0 ? PlainDrum.lanternFault(spoiled)
                    : sort == 1 ? PlainDrum.lawFault(spoiled) : PlainDrum.stripFault(spoiled);
            checks.same("fault(" + sort + ") of '" + spoiled + "'", Checks.faultOf(drum, sort, spoiled), due);
        }
    }

    // ---- runs

    private static SlitDrum drum;
    private static PlainDrum plain;
    private static int run;
    private static int calls;

    private static void run(int number) {
        run = number;
        drum = new SlitDrum();
        plain = new PlainDrum();
        boolean early = any(8) == 0;
        for (int s = any(6); s > 0; s--) {
            tell(2);
        }
        if (!early) {
            tell(0);
        }
        for (int l = any(3); l > 0; l--) {
            tell(1);
        }
        calls = 0;
        while (calls < 450 && checks.isRight()) {
            calls++;
            call(any(60));
            look();
        }
    }

    private static void tell(int sort) {
        String text = any(12) == 0 ? spoiled(anyText(sort), sort) : anyText(sort);
        for (int start = 0; start < text.length(); start += 20) {
            int[] n = new int[5];
            for (int i = 0; i < 20 && start + i < text.length(); i++) {
                n[i / 4] |= (text.charAt(start + i) & 255) << (24 - i % 4 * 8);
            }
            same("feed", drum.feed(n[0], n[1], n[2], n[3], n[4]), plain.feed(n[0], n[1], n[2], n[3], n[4]));
        }
        same("fault", drum.fault(sort), plain.fault(sort));
        int end = any(6) == 0 ? any(30) - 2 : 240;
        same("end", drum.end(end) ? 1 : 0, plain.end(end) ? 1 : 0);
        same("text " + sort, drum.text(sort), plain.text(sort));
        if (any(3) > 0) {
            same("end", drum.end(0) ? 1 : 0, plain.end(0) ? 1 : 0);
        }
    }

    private static void same(String what, long got, long want) {
        checks.same("run " + run + ", call " + calls + ": " + what, got, want);
    }

    /** A number below n, now and then one out of bounds. */
    private static int near(int n) {
        int rare = any(60);
        return rare == 0 ? -1 : rare == 1 ? n : rare == 2 ? -2 : rare == 3 ? any(2) * 2 * Integer.MAX_VALUE + Integer.MIN_VALUE : any(n);
    }

    private static int wheel() {
        return near(Math.max(1, drum.count(0)));
    }

    private static int strip() {
        return near(Math.max(1, drum.count(2)));
    }

    private static void call(int which) {
        int w = wheel();
        int s = strip();
        int a = near(10);
        int n = near(61);
        long seed = random.nextLong();
        boolean b = random.nextBoolean();
        switch (which) {
            case 0: tell(any(3)); break;
            case 1: if (any(3) == 0) { tell(2); } break;
            case 2: case 3: same("ticks " + n, drum.ticks(n), plain.ticks(n)); break;
            case 4: case 5: same("ticks " + a, drum.ticks(a), plain.ticks(a)); break;
            case 6: same("flash " + n, drum.flash(n), plain.flash(n)); break;
            case 7: same("flash " + a, drum.flash(a), plain.flash(a)); break;
            case 8: same("speed", drum.speed(w, a), plain.speed(w, a)); break;
            case 9: same("about", drum.about(w), plain.about(w)); break;
            case 10: same("push", drum.push(w, a), plain.push(w, a)); break;
            case 11: same("puts", drum.puts(w, s), plain.puts(w, s)); break;
            case 12: same("oil", drum.oil(n), plain.oil(n)); break;
            case 13: same("give", drum.give(n), plain.give(n)); break;
            case 14: same("years", drum.years(n, seed), plain.years(n, seed)); break;
            case 15: case 16: same("years", drum.years(a, seed), plain.years(a, seed)); break;
            case 17: case 18: case 19: case 20: same("undo", drum.undo(), plain.undo()); break;
            case 21: same("image", drum.image(), plain.image()); break;
            case 22: same("back", drum.back(), plain.back()); break;
            case 23: law(near(5) - 1); break;
            case 24: same("touch", drum.touch(a) ? 1 : 0, plain.touch(a) ? 1 : 0); break;
            case 25: case 26: note(b); break;
            case 27: same("undo", drum.undo(), plain.undo()); same("undo", drum.undo(), plain.undo()); break;
            default: ask(which, w, s, a, n); break;
        }
    }

    private static void law(int law) {
        same("law " + law, drum.law(law) ? 1 : 0, plain.law(law) ? 1 : 0);
    }

    private static void note(boolean b) {
        int tick = near(100);
        int picture = near(any(3) == 0 ? 27 : 4);
        boolean is = b && any(3) == 0;
        same("noted", drum.noted(tick, picture, is), plain.noted(tick, picture, is));
    }

    private static void ask(int which, int w, int s, int a, int n) {
        int i = near(100);
        int few = near(17) - 1;
        int other = wheel();
        int s2 = strip();
        int chance = near(101);
        int picture = near(any(2) == 0 ? 27 : 4);
        switch (which) {
            case 28: same("at", drum.at(w, i), plain.at(w, i)); break;
            case 29: same("seems", drum.seems(w, n), plain.seems(w, n)); break;
            case 30: same("stands", drum.stands(w, -1), plain.stands(w, -1)); break;
            case 31: same("stands", drum.stands(w, few), plain.stands(w, few)); break;
            case 32: same("together", drum.together(), plain.together()); break;
            case 33: same("again", drum.again(w), plain.again(w)); break;
            case 34: same("again", drum.again(-1), plain.again(-1)); break;
            case 35: same("meets", drum.meets(w, other), plain.meets(w, other)); break;
            case 36: same("reads", drum.reads(s), plain.reads(s)); break;
            case 37: same("period", drum.period(s), plain.period(s)); break;
            case 38: same("least", drum.least(s), plain.least(s)); break;
            case 39: same("alike", drum.alike(s, s2, a < 5), plain.alike(s, s2, a < 5)); break;
            case 40: same("mirror", drum.mirror(s), plain.mirror(s)); break;
            case 41: same("rows", drum.rows(s, a), plain.rows(s, a)); break;
            case 42: same("fits", drum.fits(-1), plain.fits(-1)); break;
            case 43: same("fits", drum.fits(i), plain.fits(i)); break;
            case 44: same("ask", drum.ask(), plain.ask()); break;
            case 45: game(w); break;
            case 46: same("rests", drum.rests(w, -1), plain.rests(w, -1)); break;
            case 47: same("rests", drum.rests(w, few), plain.rests(w, few)); break;
            case 48: case 49: same("odds", drum.odds(w, a, chance, picture), plain.odds(w, a, chance, picture)); break;
            case 50: same("shares", drum.shares(w, 10 * i + a), plain.shares(w, 10 * i + a)); break;
            case 51: case 52: case 53: same("most " + a, drum.most(a), plain.most(a)); break;
            default: break;
        }
    }

    private static void game(int w) {
        int x = near(4) + 1;
        int y = near(4);
        int what = near(2);
        same("game", drum.game(w, x, y, what), plain.game(w, x, y, what));
    }

    /** All of the state that can be seen cheaply. */
    private static void look() {
        for (int what = -1; what <= 10; what++) {
            same("count " + what, drum.count(what), plain.count(what));
        }
        for (int what = -1; what <= 5; what++) {
            same("status " + what, drum.status(what), plain.status(what));
        }
        for (int what = -1; what <= 3; what++) {
            same("rule " + what, drum.rule(what), plain.rule(what));
        }
        for (int w = -1; w <= 4; w++) {
            for (int what = -1; what <= 6; what++) {
                same("wheel " + w + " " + what, wheelOf(drum, w, what), wheelOf(plain, w, what));
            }
            for (int i = -1; i <= 60; i++) {
                same("log " + i + " " + w, drum.log(i, w), plain.log(i, w));
            }
        }
        for (int s = -1; s <= 6; s++) {
            for (int i = -2; i <= 16; i++) {
                same("picture", drum.picture(s, i), plain.picture(s, i));
            }
        }
    }

    private static int wheelOf(SlitDrum of, int w, int what) {
        try {
            return of.wheel(w, what);
        } catch (NoSuchElementException e) {
            return Integer.MIN_VALUE;
        }
    }

    private static int wheelOf(PlainDrum of, int w, int what) {
        try {
            return of.wheel(w, what);
        } catch (NoSuchElementException e) {
            return Integer.MIN_VALUE;
        }
    }
}
