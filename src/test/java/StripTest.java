import java.util.HashSet;
import java.util.Random;
import java.util.Set;

/** Promises 30 to 35: period, least, alike, mirror, rows, kinds, each against its plain meaning. */
public final class StripTest {
    private static final Checks checks = new Checks("StripTest");
    private static final Random random = new Random(7);

    public static void main(String[] args) {
        for (int round = 0; round < 400; round++) {
            againstTexts();
        }
        for (int q = 1; q <= 6; q++) {
            for (int n = 1; Math.pow(q, n) < 70000 && n <= 12; n++) {
                kinds(n, q);
            }
        }
        examples();
        refused();
        checks.end();
    }

    private static String anyStrip() {
        StringBuilder strip = new StringBuilder();
        int length = 1 + random.nextInt(random.nextBoolean() ? 16 : 5);
        int letters = 1 + random.nextInt(3);
        for (int i = 0; i < length; i++) {
            int letter = random.nextInt(letters + 1);
            strip.append(letter == letters ? '.' : (char) ('a' + letter));
        }
        if (random.nextInt(4) == 0 && length <= 8) {
            strip.append(strip.toString());
        }
        return strip.toString();
    }

    private static String turned(String strip, int k) {
        return strip.substring(k) + strip.substring(0, k);
    }

    private static int turning(String one, String other) {
        for (int k = 0; k < one.length(); k++) {
            if (turned(one, k).equals(other)) {
                return k;
            }
        }
        return -1;
    }

    private static void againstTexts() {
        SlitDrum drum = new SlitDrum();
        String[] strips = new String[6];
        for (int s = 0; s < 6; s++) {
            strips[s] = s % 2 == 0 ? anyStrip() : turned(strips[s - 1], random.nextInt(strips[s - 1].length()));
            if (s % 2 == 1 && random.nextBoolean()) {
                strips[s] = new StringBuilder(strips[s]).reverse().toString();
            }
            checks.same("told", Checks.tell(drum, 2, strips[s]), s);
        }
        for (int s = 0; s < 6; s++) {
            String strip = strips[s];
            int period = 1;
            while (!turned(strip, period % strip.length()).equals(strip)) {
                period++;
            }
            checks.same("period of " + strip, drum.period(s), period);
            String alphabet = strip.replace('.', '~');
            int least = 0;
            for (int k = 1; k < strip.length(); k++) {
                least = turned(alphabet, k).compareTo(turned(alphabet, least)) < 0 ? k : least;
            }
            checks.same("least of " + strip, drum.least(s), least);
            String over = new StringBuilder(strip).reverse().toString();
            checks.same("mirror of " + strip, drum.mirror(s), turning(over, strip) >= 0 ? 1 : 0);
            for (int other = 0; other < 6; other++) {
                checks.same("alike", drum.alike(s, other, false), turning(strip, strips[other]));
                checks.same("alike over", drum.alike(s, other, true), turning(over, strips[other]));
            }
            String rounds = strip.repeat(9);
            for (int m = 1; m <= 8; m++) {
                Set<String> rows = new HashSet<>();
                for (int i = 0; i < strip.length(); i++) {
                    rows.add(rounds.substring(i, i + m));
                }
                checks.same("rows of " + strip, drum.rows(s, m), rows.size());
            }
        }
    }

    private static void kinds(int n, int q) {
        Set<String> turnings = new HashSet<>();
        Set<String> overs = new HashSet<>();
        int all = (int) Math.round(Math.pow(q, n));
        for (int number = 0; number < all; number++) {
            StringBuilder strip = new StringBuilder();
            for (int i = 0, rest = number; i < n; i++, rest /= q) {
                strip.append((char) ('a' + rest % q));
            }
            String one = leastOf(strip.toString());
            String over = leastOf(strip.reverse().toString());
            turnings.add(one);
            overs.add(one.compareTo(over) < 0 ? one : over);
        }
        SlitDrum drum = new SlitDrum();
        checks.same("kinds " + n + " " + q, drum.kinds(n, q, false), turnings.size());
        checks.same("kinds over " + n + " " + q, drum.kinds(n, q, true), overs.size());
    }

    private static String leastOf(String strip) {
        String least = strip;
        for (int k = 1; k < strip.length(); k++) {
            String turned = turned(strip, k);
            least = turned.compareTo(least) < 0 ? turned : least;
        }
        return least;
    }

    private static void examples() {
        SlitDrum drum = Checks.drum("w", "z.ab", "abab", "9a7a", "abcba");
        checks.same("blank behind z", drum.least(0), 2);
        checks.same("of several the least", drum.least(1), 0);
        checks.same("all one", drum.period(2), 1);
        checks.same("mirror", drum.mirror(3), 1);
        checks.same("round and round", drum.rows(1, 8), 2);
        checks.same("kinds", drum.kinds(12, 6, false), 181402676);
        checks.same("kinds over", drum.kinds(12, 6, true), 90782986);
    }

    private static void refused() {
        SlitDrum drum = Checks.drum("w", "ab");
        for (int strip : new int[] {-1, 1, 6, Integer.MAX_VALUE, Integer.MIN_VALUE}) {
            checks.same("period", drum.period(strip), -1);
            checks.same("least", drum.least(strip), -1);
            checks.same("alike", drum.alike(0, strip, false), -1);
            checks.same("alike", drum.alike(strip, 0, true), -1);
            checks.same("mirror", drum.mirror(strip), -1);
            checks.same("rows", drum.rows(strip, 1), -1);
        }
        checks.same("rows 0", drum.rows(0, 0), -1);
        checks.same("rows 9", drum.rows(0, 9), -1);
        checks.same("kinds 0", drum.kinds(0, 1, false), -1);
        checks.same("kinds 13", drum.kinds(13, 1, false), -1);
        checks.same("kinds of 0", drum.kinds(1, 0, true), -1);
        checks.same("kinds of 7", drum.kinds(1, 7, true), -1);
    }
}
