import java.lang.reflect.InvocationTargetException;
import java.lang.reflect.Method;
import java.util.Arrays;
import java.util.Comparator;
import java.util.NoSuchElementException;
import java.util.function.Supplier;

/**
 * Tests of edges: each static method of a class whose name is p, its promise's number, _ and what is due
 * there is a test of its own; its name stands ahead of every answer that is not as due.
 */
final class Edges {
    static final int NONE = -1;
    static final int HIDDEN = -1000000;
    static final int BLANK = 26;
    static final int NO_STATUS = -1;
    static final int LEAST = Integer.MIN_VALUE;
    static final int MOST = Integer.MAX_VALUE;

    private final String name;
    private String test = "";
    private int tests = 0;
    private int answers = 0;
    private int wrong = 0;

    Edges(String name) {
        this.name = name;
    }

    interface Call {
        long on(SlitDrum drum);
    }

    static boolean isTest(Method method) {
        return method.getName().matches("p\\d\\d_\\w+");
    }

    static int promiseOf(Method method) {
        return Integer.parseInt(method.getName().substring(1, 3));
    }

    void run(Class<?> of) {
        Method[] methods = of.getDeclaredMethods();
        Arrays.sort(methods, Comparator.comparing(Method::getName));
        for (Method method : methods) {
            if (isTest(method)) {
                runOne(method);
            }
        }
        System.out.println(name + ": " + tests + " tests, " + answers + " answers, " + wrong + " not as due");
        if (wrong != 0 || tests == 0) {
            System.exit(1);
        }
    }

    private void runOne(Method method) {
        test = method.getName();
        tests++;
        int before = answers;
        try {
            method.setAccessible(true);
            method.invoke(null);
        } catch (InvocationTargetException e) {
            fail("threw " + e.getCause());
        } catch (IllegalAccessException e) {
            fail("could not be run");
        }
        if (answers == before) {
            fail("asks nothing");
        }
    }

    private void fail(String why) {
        wrong++;
        System.out.println(name + " " + test + ": " + why);
    }

    void same(String what, long got, long due) {
        answers++;
        if (got != due) {
            fail(what + " answered " + got + ", due is " + due);
        }
    }

    void same(String what, boolean got, boolean due) {
        answers++;
        if (got != due) {
            fail(what + " answered " + got + ", due is " + due);
        }
    }

    void same(String what, String got, String due) {
        answers++;
        if (!got.equals(due)) {
            fail(what + "\n  is  " + got + "\n  due " + due);
        }
    }

    void noSuchWheel(SlitDrum drum, int wheel, int what) {
        boolean thrown = false;
        try {
            drum.wheel(wheel, what);
        } catch (NoSuchElementException e) {
            thrown = e.getClass() == NoSuchElementException.class;
        }
        same("wheel(" + wheel + ", " + what + ") throws", thrown, true);
    }

    void statuses(SlitDrum drum, int... due) {
        for (int what = 0; what < 5; what++) {
            same("status(" + what + ")", drum.status(what), due[what]);
        }
    }

    void wheelIs(SlitDrum drum, int wheel, int... due) {
        for (int what = 0; what < due.length; what++) {
            same("wheel(" + wheel + ", " + what + ")", drum.wheel(wheel, what), due[what]);
        }
    }

    /** The fault of a text of that sort, told to a new object. */
    void fault(int sort, String text, int due) {
        same("fault(" + sort + ") of '" + text + "'", Checks.faultOf(new SlitDrum(), sort, text), due);
    }

    /** A call that answers as told, counts in that STATUS alone, and changes nothing else. */
    void refused(String what, Supplier<SlitDrum> made, Call call, long due, int status) {
        SlitDrum drum = made.get();
        SlitDrum untouched = made.get();
        same(what, call.on(drum), due);
        for (int s = 0; s < 5; s++) {
            same(what + ", then status(" + s + ")", drum.status(s), untouched.status(s) + (s == status ? 1 : 0));
        }
        same(what + " changes nothing", seen(drum), seen(untouched));
        same(what + ", then undo()", drum.undo(), untouched.undo());
        same(what + " changes no act", seen(drum), seen(untouched));
        same(what + ", then back()", drum.back(), untouched.back());
        same(what + " changes no image", seen(drum), seen(untouched));
    }

    void refused(String what, Call call, long due, int status) {
        refused(what, Edges::rich, call, due, status);
    }

    /** What can be seen of an object without changing it, STATUS left out, in some hundred calls. */
    static String seen(SlitDrum drum) {
        StringBuilder seen = new StringBuilder("counts");
        for (int what = 0; what < 10; what++) {
            seen.append(' ').append(drum.count(what));
        }
        seen.append(" rules");
        for (int what = 0; what < 3; what++) {
            seen.append(' ').append(drum.rule(what));
        }
        for (int w = 0; w < drum.count(0); w++) {
            seen.append(" wheel ").append(w);
            for (int what = 0; what < 6; what++) {
                seen.append(' ').append(drum.wheel(w, what));
            }
            seen.append(' ').append(drum.seems(w, 5));
            seen.append(" log ").append(drum.log(0, w)).append(' ').append(drum.log(1, w));
        }
        seen.append(" strips");
        for (int s = 0; s < drum.count(2); s++) {
            seen.append(' ').append(drum.picture(s, NONE)).append(' ').append(drum.picture(s, 1));
        }
        return seen.append(" fits ").append(drum.fits(NONE)).append(' ').append(drum.fault(2)).toString();
    }

    /** A drum with some of everything: strips, a law that holds, acts, an image, a note, a tape. */
    static SlitDrum rich() {
        SlitDrum drum = Checks.drum("sf3o30k30;wv1p1;wv2b1r1p2;wv3r2;wr5v4", "abcd", "xyz", "a.b.c");
        Checks.tell(drum, Checks.LAW, "y:p=1?2;y:v");
        Checks.tell(drum, Checks.LAW, "y:p+1");
        drum.law(0);
        drum.ticks(7);
        drum.image();
        drum.push(0, 3);
        drum.flash(4);
        drum.noted(3, 1, true);
        Checks.feed(drum, "ab");
        return drum;
    }

    static String times(String text, int n) {
        return text.repeat(n);
    }
}
