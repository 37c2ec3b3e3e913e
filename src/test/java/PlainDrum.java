import java.util.ArrayList;
import java.util.HashSet;
import java.util.List;
import java.util.NoSuchElementException;
import java.util.Set;

/**
 * The document once more, told as slowly and plainly as it can be, to be compared with SlitDrum: states are
 * copied whole, wheels are moved tick by tick, laws are worked out from their texts, and texts are looked
 * at sign by sign by machines with a stack instead of by descent.
 */
final class PlainDrum {
    static final class Wheel {
        int speed = 1;
        int back = 0;
        int place = 0;
        int strip = 0;

        Wheel copy() {
            Wheel copy = new Wheel();
            copy.speed = speed;
            copy.back = back;
            copy.place = place;
            copy.strip = strip;
            return copy;
        }
    }

    static final class State {
        List<Wheel> wheels = new ArrayList<>();
        int flash = 6;
        int oil = 40;
        int coins = 20;
        int tick = 0;
        List<int[]> log = new ArrayList<>();

        State copy() {
            State copy = new State();
            for (Wheel wheel : wheels) {
                copy.wheels.add(wheel.copy());
            }
            copy.flash = flash;
            copy.oil = oil;
            copy.coins = coins;
            copy.tick = tick;
            copy.log = new ArrayList<>(log);
            return copy;
        }
    }

    String tape = "";
    List<String> laws = new ArrayList<>();
    List<String> strips = new ArrayList<>();
    int holding = -1;
    int touch = 3;
    int[] status = new int[5];
    State now = new State();
    List<State> past = new ArrayList<>();
    State image = null;
    List<int[]> notes = new ArrayList<>();
    long x;

    // ---- texts

    int feed(int a, int b, int c, int d, int e) {
        StringBuilder more = new StringBuilder();
        for (int number : new int[] {a, b, c, d, e}) {
            for (int i = 3; i >= 0; i--) {
                char sign = (char) (number >> 8 * i & 255);
                if (sign != 0) {
                    more.append(sign);
                }
            }
        }
        if (tape.length() + more.length() > 240) {
            return -1;
        }
        tape += more;
        return tape.length();
    }

    boolean end(int n) {
        if (n < 0 || n > tape.length()) {
            return false;
        }
        tape = tape.substring(0, n);
        return true;
    }

    int fault(int sort) {
        switch (sort) {
            case 0: return lanternFault(tape);
            case 1: return lawFault(tape);
            case 2: return stripFault(tape);
            default: return -2;
        }
    }

    static int lanternFault(String text) {
        int i = 0;
        String letters = null;
        String had = "";
        int rules = 0;
        int wheels = 0;
        while (i < text.length()) {
            char sign = text.charAt(i);
            if (sign == ' ') {
                i++;
            } else if (letters == null) {
                if (sign == 's' && rules == 0) {
                    rules++;
                    letters = "fok";
                } else if (sign == 'w' && wheels < 4) {
                    wheels++;
                    letters = "vbpr";
                } else {
                    return i;
                }
                had = "";
                i++;
            } else if (sign == ';') {
                letters = null;
                i++;
            } else if (letters.indexOf(sign) >= 0 && had.indexOf(sign) < 0) {
                had += sign;
                i++;
                while (i < text.length() && text.charAt(i) == ' ') {
                    i++;
                }
                int start = i;
                while (i < text.length() && Character.isDigit(text.charAt(i))) {
                    i++;
                }
                if (i == start) {
                    return i;
                }
                if (i - start > 2) {
                    return start + 2;
                }
                int value = Integer.parseInt(text.substring(start, i));
                int most = new int[] {60, 99, 99, 9, 1, 15, 5}["fokvbpr".indexOf(sign)];
                if (value > most || sign == 'f' && value == 0) {
                    return i - 1;
                }
            } else {
                return i;
            }
        }
        return letters == null || wheels == 0 ? text.length() : -1;
    }

    /** Open signs on a stack; of each condition whether its unit is at its left side, its right one, or shut. */
    static int lawFault(String text) {
        int phase = 0; // 0 y, 1 colon, 2 a unit or a sum, 3 a sum's atom, 4 behind an atom
        char kind = 'u'; // not known yet, condition, answer
        StringBuilder open = new StringBuilder();
        char side = 'l';
        for (int i = 0; i < text.length(); i++) {
            char sign = text.charAt(i);
            if (sign == ' ') {
                continue;
            }
            char top = open.length() == 0 ? ' ' : open.charAt(open.length() - 1);
            if (phase == 0) {
                if (sign != 'y') {
                    return i;
                }
                phase = 1;
            } else if (phase == 1) {
                if (sign != ':') {
                    return i;
                }
                phase = 2;
                kind = 'u';
                side = 'l';
            } else if (phase < 4) {
                if (sign == '[' && open.length() < 6) {
                    open.append('[');
                    phase = 3;
                } else if (phase == 2 && (sign == '!' || sign == '(') && open.length() < 6) {
                    open.append(sign);
                    kind = 'c';
                } else if ("vplntf".indexOf(sign) >= 0) {
                    phase = 4;
                } else if (Character.isDigit(sign)) {
                    int start = i;
                    while (i + 1 < text.length() && Character.isDigit(text.charAt(i + 1))) {
                        i++;
                    }
                    if (i - start >= 4) {
                        return start + 4;
                    }
                    phase = 4;
                } else {
                    return i;
                }
            } else if (side != 's' && "+-*/".indexOf(sign) >= 0) {
                phase = 3;
            } else if (top == '[') {
                if (sign != ']') {
                    return i;
                }
                open.setLength(open.length() - 1);
            } else if (side == 'l' && "=<>".indexOf(sign) >= 0 && kind != 'a') {
                kind = 'c';
                side = 'r';
                phase = 3;
            } else if (sign == ';' && kind != 'c') {
                phase = 0;
            } else if (side != 'l') {
                while (open.length() > 0 && open.charAt(open.length() - 1) == '!') {
                    open.setLength(open.length() - 1);
                }
                boolean outer = open.length() == 0;
                if (sign == '&' || sign == '|') {
                    side = 'l';
                    phase = 2;
                } else if (sign == ')' && !outer) {
                    open.setLength(open.length() - 1);
                    side = 's';
                } else if (sign == '?' && outer) {
                    kind = 'a';
                    side = 'l';
                    phase = 3;
                } else {
                    return i;
                }
            } else {
                return i;
            }
        }
        return phase == 4 && kind != 'c' && open.length() == 0 ? -1 : text.length();
    }

    static int stripFault(String text) {
        int size = 0;
        int times = 0;
        for (int i = 0; i < text.length(); i++) {
            char sign = text.charAt(i);
            if (sign == ' ') {
                continue;
            }
            if (sign >= '2' && sign <= '9' && times == 0) {
                times = sign - '0';
            } else if (sign == '.' || sign >= 'a' && sign <= 'z') {
                size += Math.max(1, times);
                times = 0;
                if (size > 16) {
                    return i;
                }
            } else {
                return i;
            }
        }
        return size == 0 || times != 0 ? text.length() : -1;
    }

    int text(int sort) {
        if (sort < 0 || sort > 2 || fault(sort) != -1) {
            return -1;
        }
        String told = tape.replace(" ", "");
        if (sort == 1 && laws.size() == 4 || sort == 2 && strips.size() == 6) {
            return -1;
        }
        tape = "";
        if (sort == 1) {
            laws.add(told);
            return laws.size() - 1;
        }
        if (sort == 2) {
            StringBuilder strip = new StringBuilder();
            for (int i = 0; i < told.length(); i++) {
                char sign = told.charAt(i);
                if (Character.isDigit(sign)) {
                    i++;
                    strip.append(String.valueOf(told.charAt(i)).repeat(sign - '0'));
                } else {
                    strip.append(sign);
                }
            }
            strips.add(strip.toString().replace('.', (char) ('a' + 26)));
            for (Wheel wheel : now.wheels) {
                wheel.place %= size(wheel);
            }
            return strips.size() - 1;
        }
        now = new State();
        for (String clause : told.split(";")) {
            Wheel wheel = clause.charAt(0) == 'w' ? new Wheel() : null;
            if (wheel != null) {
                now.wheels.add(wheel);
            }
            for (String item : clause.substring(1).split("(?=[a-z])")) {
                if (!item.isEmpty()) {
                    set(wheel, item.charAt(0), Integer.parseInt(item.substring(1)));
                }
            }
            if (wheel != null) {
                wheel.place %= size(wheel);
            }
        }
        past.clear();
        image = null;
        notes.clear();
        return now.wheels.size();
    }

    private void set(Wheel wheel, char letter, int value) {
        switch (letter) {
            case 'f': now.flash = value; break;
            case 'o': now.oil = value; break;
            case 'k': now.coins = value; break;
            case 'v': wheel.speed = value; break;
            case 'b': wheel.back = value; break;
            case 'p': wheel.place = value; break;
            default: wheel.strip = value; break;
        }
    }

    // ---- what there is

    String strip(Wheel wheel) {
        return wheel.strip < strips.size() ? strips.get(wheel.strip) : "" + (char) ('a' + 26);
    }

    int size(Wheel wheel) {
        return strip(wheel).length();
    }

    int shows(Wheel wheel) {
        return strip(wheel).charAt(wheel.place) - 'a';
    }

    boolean isWheel(int wheel) {
        return wheel >= 0 && wheel < now.wheels.size();
    }

    boolean isStrip(int strip) {
        return strip >= 0 && strip < strips.size();
    }

    boolean lit() {
        return !now.wheels.isEmpty();
    }

    int rule(int what) {
        if (!lit() || what < 0 || what > 2) {
            return -1;
        }
        return new int[] {now.flash, now.oil, now.coins}[what];
    }

    int wheel(int wheel, int what) {
        if (!isWheel(wheel) || what < 0 || what > 5) {
            throw new NoSuchElementException();
        }
        Wheel one = now.wheels.get(wheel);
        return new int[] {one.speed, one.back, one.place, one.strip, size(one), shows(one)}[what];
    }

    int picture(int strip, int i) {
        if (!isStrip(strip) || i < -1 || i >= strips.get(strip).length()) {
            return -1;
        }
        return i == -1 ? strips.get(strip).length() : strips.get(strip).charAt(i) - 'a';
    }

    boolean law(int law) {
        if (law < -1 || law >= laws.size()) {
            return false;
        }
        holding = law;
        return true;
    }

    boolean touch(int v) {
        if (v < 0 || v > 9 || v == touch) {
            return false;
        }
        touch = v;
        return true;
    }

    // ---- how a wheel moves

    private String law;
    private int at;
    private int[] letters;

    int worth(String text, int[] values) {
        letters = values;
        for (String clause : text.split(";")) {
            law = clause;
            at = 2;
            boolean holds = true;
            if (clause.indexOf('?') >= 0) {
                holds = condition();
                at++;
            }
            if (holds) {
                return sum();
            }
        }
        return 0;
    }

    private char sign() {
        return at < law.length() ? law.charAt(at) : 0;
    }

    private boolean condition() {
        boolean holds = truth();
        while (sign() == '|') {
            at++;
            holds = truth() || holds;
        }
        return holds;
    }

    private boolean truth() {
        boolean holds = unit();
        while (sign() == '&') {
            at++;
            holds = unit() && holds;
        }
        return holds;
    }

    private boolean unit() {
        if (sign() == '!') {
            at++;
            return !unit();
        }
        if (sign() == '(') {
            at++;
            boolean holds = condition();
            at++;
            return holds;
        }
        int left = sum();
        char compare = sign();
        at++;
        int right = sum();
        return compare == '=' ? left == right : compare == '<' ? left < right : left > right;
    }

    private static int held(long number, int bound) {
        return (int) (number > bound ? bound : number < -bound ? -bound : number);
    }

    private int sum() {
        int sum = term();
        while (sign() == '+' || sign() == '-') {
            int way = sign() == '+' ? 1 : -1;
            at++;
            sum = held(sum + way * term(), 1000000);
        }
        return sum;
    }

    private int term() {
        int term = atom();
        while (sign() == '*' || sign() == '/') {
            boolean times = sign() == '*';
            at++;
            int by = atom();
            term = held(times ? (long) term * by : by == 0 ? 0 : term / by, 1000000);
        }
        return term;
    }

    private int atom() {
        char sign = sign();
        at++;
        if (sign == '[') {
            int sum = sum();
            at++;
            return sum;
        }
        if (!Character.isDigit(sign)) {
            return letters["vplntf".indexOf(sign)];
        }
        int start = at - 1;
        while (Character.isDigit(sign())) {
            at++;
        }
        return Integer.parseInt(law.substring(start, at));
    }

    void move(Wheel wheel, int tick) {
        int v = wheel.back == 1 ? -wheel.speed : wheel.speed;
        int by = v;
        if (holding >= 0) {
            int[] values = {v, wheel.place, size(wheel), shows(wheel), tick % 24, now.flash};
            by = held(worth(laws.get(holding), values), 15);
        }
        wheel.place = (wheel.place + by + 16 * size(wheel)) % size(wheel);
    }

    // ---- acts

    int refused(int why) {
        status[why]++;
        return -1;
    }

    void keep() {
        past.add(now.copy());
        if (past.size() > 40) {
            past.remove(0);
        }
    }

    void tick() {
        if (now.oil > 0) {
            now.oil--;
            for (Wheel wheel : now.wheels) {
                move(wheel, now.tick);
            }
        }
        now.tick++;
        if (now.tick % now.flash == 0) {
            int[] row = {26, 26, 26, 26};
            Set<Integer> seen = new HashSet<>();
            for (int w = 0; w < now.wheels.size(); w++) {
                row[w] = shows(now.wheels.get(w));
                seen.add(row[w]);
            }
            now.log.add(0, row);
            if (now.log.size() > 60) {
                now.log.remove(60);
            }
            if (now.wheels.size() > 1 && seen.size() == 1 && !seen.contains(26) && now.coins < 999) {
                now.coins++;
            }
        }
    }

    int ticks(int n) {
        if (!lit()) {
            return refused(0);
        }
        if (n < 1 || n > 60) {
            return refused(1);
        }
        if (now.tick + n > 9999) {
            return refused(4);
        }
        for (int i = 0; i < n; i++) {
            keep();
            tick();
        }
        return now.tick;
    }

    int flash(int f) {
        int why = !lit() ? 0 : f < 1 || f > 60 ? 1 : f == now.flash ? 2 : -1;
        if (why >= 0) {
            return refused(why);
        }
        keep();
        int was = now.flash;
        now.flash = f;
        return was;
    }

    int speed(int wheel, int v) {
        int why = !isWheel(wheel) ? 0 : v < 0 || v > 9 ? 1 : now.wheels.get(wheel).speed == v ? 2 : now.coins < 1 ? 3 : -1;
        if (why >= 0) {
            return refused(why);
        }
        keep();
        int was = now.wheels.get(wheel).speed;
        now.wheels.get(wheel).speed = v;
        now.coins--;
        return was;
    }

    int about(int wheel) {
        if (!isWheel(wheel)) {
            return refused(0);
        }
        keep();
        return now.wheels.get(wheel).back ^= 1;
    }

    int push(int wheel, int n) {
        int why = !isWheel(wheel) ? 0 : n < 1 || n > 9 ? 1 : now.coins < 1 ? 3 : -1;
        if (why >= 0) {
            return refused(why);
        }
        keep();
        now.coins--;
        Wheel one = now.wheels.get(wheel);
        one.place = (one.place + n) % size(one);
        return one.place;
    }

    int puts(int wheel, int strip) {
        int why = !isWheel(wheel) || !isStrip(strip) ? 0 : now.wheels.get(wheel).strip == strip ? 2 : now.coins < 2 ? 3 : -1;
        if (why >= 0) {
            return refused(why);
        }
        keep();
        now.coins -= 2;
        Wheel one = now.wheels.get(wheel);
        one.strip = strip;
        one.place %= size(one);
        return size(one);
    }

    int oil(int n) {
        int why = !lit() ? 0 : n < 1 || n > 30 ? 1 : now.coins < n - n / 2 || now.oil + n > 999 ? 3 : -1;
        if (why >= 0) {
            return refused(why);
        }
        keep();
        now.coins -= n - n / 2;
        now.oil += n;
        return now.oil;
    }

    int give(int n) {
        int why = !lit() ? 0 : n < 1 || n > 50 ? 1 : now.coins + n > 999 ? 3 : -1;
        if (why >= 0) {
            return refused(why);
        }
        keep();
        return now.coins += n;
    }

    int draw(int j) {
        x = x * 6364136223846793005L + 1442695040888963407L;
        return (int) ((x >>> 33) % j);
    }

    int years(int n, long seed) {
        if (!lit() || n < 1 || n > 60 || now.tick + n > 9999) {
            return -1;
        }
        x = seed;
        for (int i = 0; i < n; i++) {
            keep();
            if (draw(10) < touch) {
                Wheel one = now.wheels.get(draw(now.wheels.size()));
                one.place = (one.place + draw(9) + 1) % size(one);
            }
            if (draw(10) < 2) {
                Wheel one = now.wheels.get(draw(now.wheels.size()));
                one.speed = draw(10);
            }
            now.oil = Math.min(999, now.oil + 1);
            tick();
        }
        return now.tick;
    }

    int status(int what) {
        return what < 0 || what > 4 ? -1 : status[what];
    }

    int undo() {
        if (past.isEmpty()) {
            return -1;
        }
        now = past.remove(past.size() - 1);
        return past.size();
    }

    int log(int i, int wheel) {
        return i < 0 || i >= now.log.size() || wheel < 0 || wheel > 3 ? -1 : now.log.get(i)[wheel];
    }

    // ---- what is seen from now on

    /** The wheels as they are n ticks on. */
    List<Wheel> after(int n) {
        List<Wheel> wheels = now.copy().wheels;
        for (int i = 0; i < n; i++) {
            for (Wheel wheel : wheels) {
                move(wheel, now.tick + i);
            }
        }
        return wheels;
    }

    int at(int wheel, int i) {
        return !isWheel(wheel) || i < 0 || i > 99 ? -1 : shows(after(i * now.flash).get(wheel));
    }

    int seems(int wheel, int f) {
        if (!isWheel(wheel) || f < 1 || f > 60) {
            return -1000000;
        }
        int size = size(now.wheels.get(wheel));
        int by = after(f).get(wheel).place - now.wheels.get(wheel).place;
        for (int least = 0; ; least++) {
            if ((by - least) % size == 0) {
                return least;
            }
            if ((by + least) % size == 0) {
                return -least;
            }
        }
    }

    /** Of each wheel its places 0 .. most ticks on. */
    List<int[]> places(int most) {
        List<int[]> places = new ArrayList<>();
        for (Wheel start : now.wheels) {
            Wheel wheel = start.copy();
            int[] row = new int[most + 1];
            for (int i = 0; i <= most; i++) {
                row[i] = wheel.place;
                move(wheel, now.tick + i);
            }
            places.add(row);
        }
        return places;
    }

    static boolean standsBy(int[] places, int f) {
        for (int k = 1; k <= 6; k++) {
            if (places[k * f] != places[0]) {
                return false;
            }
        }
        return true;
    }

    int stands(int wheel, int i) {
        if (!isWheel(wheel)) {
            return -1;
        }
        List<Integer> found = new ArrayList<>();
        int[] places = places(360).get(wheel);
        for (int f = 1; f <= 60; f++) {
            if (standsBy(places, f)) {
                found.add(f);
            }
        }
        return nth(found, i);
    }

    static int nth(List<Integer> found, int i) {
        return i == -1 ? found.size() : i < 0 || i >= found.size() ? -1 : found.get(i);
    }

    int together() {
        List<int[]> places = places(360);
        for (int f = 1; f <= 60 && lit(); f++) {
            int by = f;
            if (places.stream().allMatch(row -> standsBy(row, by))) {
                return f;
            }
        }
        return -1;
    }

    int again(int wheel) {
        if (!lit() || wheel != -1 && !isWheel(wheel)) {
            return -1;
        }
        int most = wheel == -1 ? 9999 : 999;
        List<int[]> places = places(most);
        if (wheel != -1) {
            places = List.of(places.get(wheel));
        }
        for (int n = 1; n <= most; n++) {
            int by = n;
            if (places.stream().allMatch(row -> row[by] == row[0])) {
                return n;
            }
        }
        return -1;
    }

    int shown(int wheel, int place) {
        return strip(now.wheels.get(wheel)).charAt(place) - 'a';
    }

    int meets(int one, int other) {
        if (!isWheel(one) || !isWheel(other) || one == other) {
            return -1;
        }
        List<int[]> places = places(999);
        for (int n = 0; n <= 999; n++) {
            int first = shown(one, places.get(one)[n]);
            if (first != 26 && first == shown(other, places.get(other)[n])) {
                return n;
            }
        }
        return -1;
    }

    int reads(int strip) {
        if (!lit() || !isStrip(strip)) {
            return -1;
        }
        List<int[]> places = places(999);
        String rounds = strips.get(strip).repeat(4);
        for (int n = 0; n <= 999; n++) {
            StringBuilder row = new StringBuilder();
            for (int w = 0; w < places.size(); w++) {
                row.append((char) ('a' + shown(w, places.get(w)[n])));
            }
            if (rounds.startsWith(row.toString())) {
                return n;
            }
        }
        return -1;
    }

    // ---- strips

    static String turned(String strip, int k) {
        return strip.substring(k) + strip.substring(0, k);
    }

    static int turning(String one, String other) {
        for (int k = 0; k < one.length(); k++) {
            if (turned(one, k).equals(other)) {
                return k;
            }
        }
        return -1;
    }

    static String over(String strip) {
        return new StringBuilder(strip).reverse().toString();
    }

    int period(int strip) {
        if (!isStrip(strip)) {
            return -1;
        }
        String one = strips.get(strip);
        return (one + one).indexOf(one, 1);
    }

    int least(int strip) {
        if (!isStrip(strip)) {
            return -1;
        }
        String one = strips.get(strip);
        int least = 0;
        for (int k = 1; k < one.length(); k++) {
            least = turned(one, k).compareTo(turned(one, least)) < 0 ? k : least;
        }
        return least;
    }

    int alike(int one, int other, boolean over) {
        if (!isStrip(one) || !isStrip(other)) {
            return -1;
        }
        return turning(over ? over(strips.get(one)) : strips.get(one), strips.get(other));
    }

    int mirror(int strip) {
        return !isStrip(strip) ? -1 : alike(strip, strip, true) >= 0 ? 1 : 0;
    }

    int rows(int strip, int m) {
        if (!isStrip(strip) || m < 1 || m > 8) {
            return -1;
        }
        Set<String> rows = new HashSet<>();
        for (int k = 0; k < strips.get(strip).length(); k++) {
            rows.add(turned(strips.get(strip), k).repeat(8).substring(0, m));
        }
        return rows.size();
    }

    // ---- the unknown wheel

    int noted(int tick, int picture, boolean is) {
        if (tick < 0 || tick > 99 || picture < 0 || picture > 26 || notes.size() == 10) {
            return -1;
        }
        notes.add(new int[] {tick, picture, is ? 1 : 0});
        return notes.size();
    }

    List<Integer> fitting() {
        List<Integer> found = new ArrayList<>();
        for (int number = 0; number < 6000; number++) {
            int strip = number / 1000;
            if (isStrip(strip) && number % 100 < strips.get(strip).length()) {
                int fit = number;
                if (notes.stream().allMatch(note -> (sight(fit, note[0]) == note[1]) == (note[2] == 1))) {
                    found.add(number);
                }
            }
        }
        return found;
    }

    int sight(int fit, int tick) {
        String strip = strips.get(fit / 1000);
        return strip.charAt((fit % 100 + fit / 100 % 10 * tick) % strip.length()) - 'a';
    }

    int fits(int i) {
        return nth(fitting(), i);
    }

    int ask() {
        List<Integer> found = fitting();
        int best = -1;
        int fewest = Integer.MAX_VALUE;
        for (int tick = 0; tick <= 60 && !found.isEmpty(); tick++) {
            int most = 0;
            int[] counts = new int[27];
            for (int fit : found) {
                most = Math.max(most, ++counts[sight(fit, tick)]);
            }
            if (most < fewest) {
                fewest = most;
                best = tick;
            }
        }
        return best;
    }

    // ---- games and odds

    int game(int wheel, int x, int y, int what) {
        if (!isWheel(wheel) || x < 1 || x > 4 || y < 0 || y > 3 || what < 0 || what > 1) {
            return -1000000;
        }
        Wheel one = now.wheels.get(wheel);
        Set<Integer> seen = new HashSet<>();
        for (int i = 0; i <= 5; i++) {
            seen.add(shown(wheel, (one.place + i * x * y) % size(one)));
        }
        seen.remove(26);
        return what == 0 ? 2 * seen.size() - x : 9 - seen.size() + y;
    }

    int rests(int wheel, int i) {
        if (!isWheel(wheel)) {
            return -1;
        }
        List<Integer> found = new ArrayList<>();
        for (int x = 1; x <= 4; x++) {
            for (int y = 0; y <= 3; y++) {
                int better = 0;
                for (int k = 0; k < 4; k++) {
                    better += game(wheel, k + 1, y, 0) > game(wheel, x, y, 0) ? 1 : 0;
                    better += game(wheel, x, k, 1) > game(wheel, x, y, 1) ? 1 : 0;
                }
                if (better == 0) {
                    found.add(10 * x + y);
                }
            }
        }
        return nth(found, i);
    }

    int odds(int wheel, int n, int chance, int picture) {
        if (!isWheel(wheel) || n < 0 || n > 8 || chance < 0 || chance > 100 || picture < 0 || picture > 26) {
            return -1;
        }
        long showing = 0;
        for (int slips = 0; slips < 1 << n; slips++) {
            Wheel one = now.wheels.get(wheel).copy();
            long part = 1000000000L;
            for (int i = 0; i < n; i++) {
                long slipping = part * chance / 100;
                if ((slips >> i & 1) == 1) {
                    part = slipping;
                } else {
                    part -= slipping;
                    move(one, now.tick + i);
                }
            }
            showing += shown(wheel, one.place) == picture ? part : 0;
        }
        return (int) showing;
    }

    int shares(int wheel, int c) {
        if (!isWheel(wheel) || c < 0 || c > 999) {
            return -1;
        }
        int all = now.wheels.stream().mapToInt(one -> one.speed).sum();
        return all == 0 ? 0 : c * now.wheels.get(wheel).speed / all;
    }

    int most(int what) {
        if (!lit() || what < 0 || what > 9) {
            return -1;
        }
        int fastest = 0;
        int longest = 0;
        int shown = 0;
        int twins = 0;
        int back = 0;
        int bare = 0;
        int still = 0;
        List<Integer> order = new ArrayList<>();
        for (int w = 0; w < now.wheels.size(); w++) {
            Wheel one = now.wheels.get(w);
            fastest = one.speed > now.wheels.get(fastest).speed ? w : fastest;
            longest = size(one) > size(now.wheels.get(longest)) ? w : longest;
            for (int other = 0; other < w; other++) {
                twins += shows(one) != 26 && shows(one) == shows(now.wheels.get(other)) ? 1 : 0;
            }
            shown |= shows(one) == 26 ? 0 : 1 << shows(one);
            back |= one.back << w;
            bare |= one.strip >= strips.size() ? 1 << w : 0;
            still |= after(1).get(w).place == one.place ? 1 << w : 0;
            order.add(w);
        }
        order.sort((one, other) -> Integer.compare(now.wheels.get(one).place, now.wheels.get(other).place));
        String row = "";
        for (int w : order) {
            row += w;
        }
        int common = -1;
        int commonest = 0;
        for (char letter = 'a'; letter <= 'z'; letter++) {
            char one = letter;
            int count = (int) strips.stream().filter(strip -> strip.indexOf(one) >= 0).count();
            if (count > commonest) {
                common = letter - 'a';
                commonest = count;
            }
        }
        int toFlash = 1;
        while ((now.tick + toFlash) % now.flash != 0) {
            toFlash++;
        }
        return new int[] {fastest, longest, common, shown, twins, back, bare, still, Integer.parseInt(row), toFlash}[what];
    }

    // ---- images and counts

    int image() {
        if (!lit()) {
            return -1;
        }
        image = now.copy();
        return now.tick;
    }

    int back() {
        if (image == null) {
            return -1;
        }
        now = image.copy();
        past.clear();
        return now.tick;
    }

    int count(int what) {
        int[] counts = {now.wheels.size(), laws.size(), strips.size(), tape.length(), holding, now.tick, touch,
            notes.size(), now.log.size(), past.size()};
        return what < 0 || what > 9 ? -1000000 : counts[what];
    }
}
