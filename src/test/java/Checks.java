import java.util.NoSuchElementException;

/** Counts answers that are not as due; the tests' common tools. */
final class Checks {
    static final int LANTERN = 0;
    static final int LAW = 1;
    static final int STRIP = 2;

    private final String name;
    private int wrong = 0;
    private int done = 0;

    Checks(String name) {
        this.name = name;
    }

    void same(String what, long got, long want) {
        done++;
        if (got != want) {
            wrong++;
            if (wrong <= 40) {
                System.out.println(name + ": " + what + " answered " + got + ", due is " + want);
            }
        }
    }

    void same(String what, boolean got, boolean want) {
        same(what, got ? 1 : 0, want ? 1 : 0);
    }

    void throwsNoSuch(String what, SlitDrum drum, int wheel, int part) {
        boolean thrown = false;
        try {
            drum.wheel(wheel, part);
        } catch (NoSuchElementException e) {
            thrown = e.getClass() == NoSuchElementException.class;
        }
        same(what, thrown, true);
    }

    boolean isRight() {
        return wrong == 0;
    }

    void end() {
        System.out.println(name + ": " + done + " answers, " + wrong + " not as due");
        if (wrong != 0) {
            System.exit(1);
        }
    }

    /** Feeds a text, twenty bytes at a time; the last answer of feed. */
    static int feed(SlitDrum drum, String text) {
        int answer = drum.count(3);
        for (int start = 0; start < text.length(); start += 20) {
            int[] five = new int[5];
            for (int i = 0; i < 20 && start + i < text.length(); i++) {
                five[i / 4] |= (text.charAt(start + i) & 255) << (24 - i % 4 * 8);
            }
            answer = drum.feed(five[0], five[1], five[2], five[3], five[4]);
        }
        return answer;
    }

    static int faultOf(SlitDrum drum, int sort, String text) {
        drum.end(0);
        feed(drum, text);
        int fault = drum.fault(sort);
        drum.end(0);
        return fault;
    }

    static int tell(SlitDrum drum, int sort, String text) {
        drum.end(0);
        feed(drum, text);
        return drum.text(sort);
    }

    /** A drum with these strips and this lantern. */
    static SlitDrum drum(String lantern, String... strips) {
        SlitDrum drum = new SlitDrum();
        for (String strip : strips) {
            tell(drum, STRIP, strip);
        }
        tell(drum, LANTERN, lantern);
        return drum;
    }
}
