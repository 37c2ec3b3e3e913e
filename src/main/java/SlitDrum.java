import java.util.Arrays;
import java.util.NoSuchElementException;

/** Wheels with strips of pictures that turn and are looked at by flashes. */
public final class SlitDrum {
    public static final int NONE = -1;
    public static final int HIDDEN = -1000000;

    private static final int MOST_WHEELS = 4;
    private static final int MOST_LAWS = 4;
    private static final int MOST_STRIPS = 6;
    private static final int MOST_BYTES = 240;
    private static final int MOST_PICTURES = 16;
    private static final int MOST_NOTES = 10;
    private static final int MOST_ROWS = 60;
    private static final int MOST_ACTS = 40;
    private static final int MOST_GOODS = 999;
    private static final int LAST_TICK = 9999;
    private static final int LAST_SIGHT = 999;
    private static final int LAST_FLASH = 60;
    private static final int DAY = 24;
    private static final int BLANK = 26;
    private static final int SIGHT_BITS = 5;
    private static final int MOST_SLIPS = 8;

    private static final int NO_SUCH = 0;
    private static final int OUT = 1;
    private static final int SO = 2;
    private static final int TOO_DEAR = 3;
    private static final int TOO_LATE = 4;

    private final int[] tape = new int[MOST_BYTES];
    private int tapeSize = 0;
    private final LanternReader lanternReader = new LanternReader();
    private final LawReader lawReader = new LawReader();
    private final StripReader stripReader = new StripReader();
    private final Law[] laws = new Law[MOST_LAWS];
    private int lawCount = 0;
    private int holding = NONE;
    private final Strip[] strips = new Strip[MOST_STRIPS];
    private int stripCount = 0;
    private final Strip bare = new Strip(new int[] {BLANK});
    private int touchBelow = 3;
    private final int[] refusals = new int[5];
    private final Scene scene = new Scene();
    private final Past past = new Past();
    private final Scene kept = new Scene();
    private boolean hasImage = false;
    private final Notes notes = new Notes();
    private final Course[] courses = new Course[MOST_WHEELS];
    private long drawn = 0;

    public SlitDrum() {
        for (int w = 0; w < courses.length; w++) {
            courses[w] = new Course();
        }
    }

    // ---- texts

    public int feed(int a, int b, int c, int d, int e) {
        int more = bytesIn(a) + bytesIn(b) + bytesIn(c) + bytesIn(d) + bytesIn(e);
        if (tapeSize + more > MOST_BYTES) {
            return NONE;
        }
        record(a);
        record(b);
        record(c);
        record(d);
        record(e);
        return tapeSize;
    }

    private static int bytesIn(int number) {
        int bytes = 0;
        for (int shift = 24; shift >= 0; shift -= 8) {
            bytes += (number >>> shift & 255) != 0 ? 1 : 0;
        }
        return bytes;
    }

    private void record(int number) {
        for (int shift = 24; shift >= 0; shift -= 8) {
            int sign = number >>> shift & 255;
            if (sign != 0 && tapeSize < tape.length) {
                tape[tapeSize] = sign;
                tapeSize++;
            }
        }
    }

    public boolean end(int n) {
        if (n < 0 || n > tapeSize) {
            return false;
        }
        tapeSize = n;
        return true;
    }

    public int fault(int sort) {
        Reader reader = readerOf(sort);
        if (reader == null) {
            return -2;
        }
        return reader.isWhole() ? NONE : reader.here;
    }

    public int text(int sort) {
        Reader reader = readerOf(sort);
        if (reader == null || !reader.isWhole()) {
            return NONE;
        }
        int number = sort == 0 ? tellLantern() : sort == 1 ? tellLaw() : tellStrip();
        if (number != NONE) {
            tapeSize = 0;
        }
        return number;
    }

    /** The reader of that sort, at the tape's beginning. */
    private Reader readerOf(int sort) {
        Reader reader = null;
        switch (sort) {
            case 0: reader = lanternReader; break;
            case 1: reader = lawReader; break;
            case 2: reader = stripReader; break;
            default: return null;
        }
        reader.start(tape, tapeSize);
        return reader;
    }

    private int tellLantern() {
        lanternReader.tell(scene);
        for (int w = 0; w < scene.wheelCount; w++) {
            Wheel told = scene.wheels[w];
            told.place = round(told.place, stripOf(told).size());
        }
        past.clear();
        notes.clear();
        hasImage = false;
        return scene.wheelCount;
    }

    private int tellLaw() {
        if (lawCount >= laws.length) {
            return NONE;
        }
        laws[lawCount] = new Law(lawReader.written());
        lawCount++;
        return lawCount - 1;
    }

    /** Wheels that were bare till now stand at place 0, so their places stay in bounds of the new strip. */
    private int tellStrip() {
        if (stripCount >= strips.length) {
            return NONE;
        }
        strips[stripCount] = new Strip(stripReader.written());
        stripCount++;
        return stripCount - 1;
    }

    // ---- what there is

    public int rule(int what) {
        if (!isLit()) {
            return NONE;
        }
        switch (what) {
            case 0: return scene.flash;
            case 1: return scene.oil;
            case 2: return scene.coins;
            default: return NONE;
        }
    }

    public int wheel(int wheel, int what) throws NoSuchElementException {
        if (!isWheel(wheel)) {
            throw new NoSuchElementException("no such wheel");
        }
        Wheel one = scene.wheels[wheel];
        switch (what) {
            case 0: return one.speed;
            case 1: return one.isBack ? 1 : 0;
            case 2: return one.place;
            case 3: return one.number;
            case 4: return stripOf(one).size();
            case 5: return shown(one);
            default: throw new NoSuchElementException("no such what");
        }
    }

    public int picture(int strip, int i) {
        if (!isStrip(strip)) {
            return NONE;
        }
        int size = strips[strip].size();
        if (i == NONE) {
            return size;
        }
        return i < 0 || i >= size ? NONE : strips[strip].shownAt(i);
    }

    public boolean law(int law) {
        if (law < NONE || law >= lawCount) {
            return false;
        }
        holding = law;
        return true;
    }

    public boolean touch(int v) {
        if (v < 0 || v > 9 || v == touchBelow) {
            return false;
        }
        touchBelow = v;
        return true;
    }

    private boolean isLit() {
        return scene.wheelCount > 0;
    }

    private boolean isWheel(int wheel) {
        return wheel >= 0 && wheel < scene.wheelCount;
    }

    private boolean isStrip(int strip) {
        return strip >= 0 && strip < stripCount && strips[strip] != null;
    }

    private Strip stripOf(Wheel wheel) {
        return isStrip(wheel.number) ? strips[wheel.number] : bare;
    }

    private int shown(Wheel wheel) {
        return stripOf(wheel).shownAt(wheel.place);
    }

    private Law lawNow() {
        return holding >= 0 && holding < lawCount ? laws[holding] : null;
    }

    // ---- acts

    public int ticks(int n) {
        if (!isLit()) {
            return refused(NO_SUCH);
        }
        if (n < 1 || n > 60) {
            return refused(OUT);
        }
        if (scene.tick + n > LAST_TICK) {
            return refused(TOO_LATE);
        }
        for (int i = 0; i < n; i++) {
            past.keep(scene);
            tickOnce();
        }
        return scene.tick;
    }

    public int flash(int f) {
        if (!isLit()) {
            return refused(NO_SUCH);
        }
        if (f < 1 || f > LAST_FLASH) {
            return refused(OUT);
        }
        if (f == scene.flash) {
            return refused(SO);
        }
        past.keep(scene);
        int was = scene.flash;
        scene.flash = f;
        return was;
    }

    public int speed(int wheel, int v) {
        if (!isWheel(wheel)) {
            return refused(NO_SUCH);
        }
        if (v < 0 || v > 9) {
            return refused(OUT);
        }
        Wheel one = scene.wheels[wheel];
        if (v == one.speed) {
            return refused(SO);
        }
        if (scene.coins < 1) {
            return refused(TOO_DEAR);
        }
        past.keep(scene);
        int was = one.speed;
        one.speed = v;
        scene.coins--;
        return was;
    }

    public int about(int wheel) {
        if (!isWheel(wheel)) {
            return refused(NO_SUCH);
        }
        past.keep(scene);
        Wheel one = scene.wheels[wheel];
        one.isBack = !one.isBack;
        return one.isBack ? 1 : 0;
    }

    public int push(int wheel, int n) {
        if (!isWheel(wheel)) {
            return refused(NO_SUCH);
        }
        if (n < 1 || n > 9) {
            return refused(OUT);
        }
        if (scene.coins < 1) {
            return refused(TOO_DEAR);
        }
        past.keep(scene);
        scene.coins--;
        shove(scene.wheels[wheel], n);
        return scene.wheels[wheel].place;
    }

    public int puts(int wheel, int strip) {
        if (!isWheel(wheel) || !isStrip(strip)) {
            return refused(NO_SUCH);
        }
        Wheel one = scene.wheels[wheel];
        if (strip == one.number) {
            return refused(SO);
        }
        if (scene.coins < 2) {
            return refused(TOO_DEAR);
        }
        past.keep(scene);
        scene.coins -= 2;
        one.number = strip;
        int size = strips[strip].size();
        one.place = round(one.place, size);
        return size;
    }

    public int oil(int n) {
        if (!isLit()) {
            return refused(NO_SUCH);
        }
        if (n < 1 || n > 30) {
            return refused(OUT);
        }
        int price = (n + 1) / 2;
        if (scene.coins < price || scene.oil + n > MOST_GOODS) {
            return refused(TOO_DEAR);
        }
        past.keep(scene);
        scene.coins -= price;
        scene.oil += n;
        return scene.oil;
    }

    public int give(int n) {
        if (!isLit()) {
            return refused(NO_SUCH);
        }
        if (n < 1 || n > 50) {
            return refused(OUT);
        }
        if (scene.coins + n > MOST_GOODS) {
            return refused(TOO_DEAR);
        }
        past.keep(scene);
        scene.coins += n;
        return scene.coins;
    }

    public int years(int n, long seed) {
        if (!isLit() || n < 1 || n > 60 || scene.tick + n > LAST_TICK) {
            return NONE;
        }
        drawn = seed;
        for (int i = 0; i < n; i++) {
            past.keep(scene);
            meddle();
            tickOnce();
        }
        return scene.tick;
    }

    public int status(int what) {
        return what < 0 || what >= refusals.length ? NONE : refusals[what];
    }

    public int undo() {
        return past.bringBack(scene);
    }

    public int log(int i, int wheel) {
        if (i < 0 || i >= scene.rowCount() || wheel < 0 || wheel >= MOST_WHEELS) {
            return NONE;
        }
        return scene.rowBefore(i) >> SIGHT_BITS * wheel & (1 << SIGHT_BITS) - 1;
    }

    private int refused(int why) {
        if (why >= 0 && why < refusals.length) {
            refusals[why]++;
        }
        return NONE;
    }

    private void shove(Wheel wheel, int n) {
        wheel.place = round(wheel.place + n, stripOf(wheel).size());
    }

    private void tickOnce() {
        if (scene.oil > 0) {
            scene.oil--;
            for (int w = 0; w < scene.wheelCount; w++) {
                scene.wheels[w].place = nextPlace(w);
            }
        }
        scene.tick++;
        if (round(scene.tick, scene.flash) == 0) {
            lookOnce();
        }
    }

    private void lookOnce() {
        int row = 0;
        for (int w = 0; w < MOST_WHEELS; w++) {
            int sight = w < scene.wheelCount ? shown(scene.wheels[w]) : BLANK;
            row |= sight << SIGHT_BITS * w;
        }
        scene.addRow(row);
        if (allShowOne() && scene.coins < MOST_GOODS) {
            scene.coins++;
        }
    }

    private boolean allShowOne() {
        int first = shown(scene.wheels[0]);
        boolean same = scene.wheelCount > 1 && first != BLANK;
        for (int w = 1; w < scene.wheelCount; w++) {
            same = same && shown(scene.wheels[w]) == first;
        }
        return same;
    }

    /** What the year does ahead of a tick, by draws. */
    private void meddle() {
        if (draw(10) < touchBelow) {
            int which = draw(scene.wheelCount);
            int by = draw(9) + 1;
            if (isWheel(which)) {
                shove(scene.wheels[which], by);
            }
        }
        if (draw(10) < 2) {
            int which = draw(scene.wheelCount);
            int v = draw(10);
            if (isWheel(which)) {
                scene.wheels[which].speed = v;
            }
        }
        scene.oil = Math.min(MOST_GOODS, scene.oil + 1);
    }

    private int draw(int j) {
        drawn = drawn * 6364136223846793005L + 1442695040888963407L;
        return j < 1 ? 0 : (int) ((drawn >>> 33) % j);
    }

    // ---- what is seen from now on

    public int at(int wheel, int i) {
        if (!isWheel(wheel) || i < 0 || i > 99) {
            return NONE;
        }
        return traced(wheel).shownAfter(i * scene.flash);
    }

    public int seems(int wheel, int f) {
        if (!isWheel(wheel) || f < 1 || f > LAST_FLASH) {
            return HIDDEN;
        }
        Wheel one = scene.wheels[wheel];
        int size = stripOf(one).size();
        int by = round(traced(wheel).placeAfter(f) - one.place, size);
        return 2 * by > size ? by - size : by;
    }

    public int stands(int wheel, int i) {
        if (!isWheel(wheel)) {
            return NONE;
        }
        Course course = traced(wheel);
        int found = 0;
        for (int f = 1; f <= LAST_FLASH; f++) {
            if (course.isStillBy(f)) {
                if (found == i) {
                    return f;
                }
                found++;
            }
        }
        return i == NONE ? found : NONE;
    }

    public int together() {
        if (!isLit()) {
            return NONE;
        }
        traceAll();
        for (int f = 1; f <= LAST_FLASH; f++) {
            boolean all = true;
            for (int w = 0; w < scene.wheelCount && all; w++) {
                all = courses[w].isStillBy(f);
            }
            if (all) {
                return f;
            }
        }
        return NONE;
    }

    public int again(int wheel) {
        boolean ofAll = wheel == NONE && isLit();
        if (!ofAll && !isWheel(wheel)) {
            return NONE;
        }
        int first = ofAll ? 0 : wheel;
        int end = ofAll ? scene.wheelCount : wheel + 1;
        int most = ofAll ? LAST_TICK : LAST_SIGHT;
        traceAll();
        for (int n = 1; n <= most; n++) {
            boolean home = true;
            for (int w = first; w < end && home; w++) {
                home = courses[w].isHomeAfter(n);
            }
            if (home) {
                return n;
            }
        }
        return NONE;
    }

    public int meets(int one, int other) {
        if (!isWheel(one) || !isWheel(other) || one == other) {
            return NONE;
        }
        Course first = traced(one);
        Course second = traced(other);
        for (int n = 0; n <= LAST_SIGHT; n++) {
            int sight = first.shownAfter(n);
            if (sight != BLANK && sight == second.shownAfter(n)) {
                return n;
            }
        }
        return NONE;
    }

    public int reads(int strip) {
        if (!isLit() || !isStrip(strip)) {
            return NONE;
        }
        traceAll();
        for (int n = 0; n <= LAST_SIGHT; n++) {
            boolean all = true;
            for (int w = 0; w < scene.wheelCount && all; w++) {
                all = courses[w].shownAfter(n) == strips[strip].shownAt(w);
            }
            if (all) {
                return n;
            }
        }
        return NONE;
    }

    private int nextPlace(int wheel) {
        return courseOf(wheel).movedFrom(scene.wheels[wheel].place, scene.tick);
    }

    private Course courseOf(int wheel) {
        Wheel one = scene.wheels[wheel];
        courses[wheel].set(one, stripOf(one), lawNow(), scene.flash, scene.tick);
        return courses[wheel];
    }

    private Course traced(int wheel) {
        Course course = courseOf(wheel);
        course.trace();
        return course;
    }

    private void traceAll() {
        for (int w = 0; w < scene.wheelCount; w++) {
            traced(w);
        }
    }

    // ---- strips

    public int period(int strip) {
        return isStrip(strip) ? strips[strip].leastPeriod() : NONE;
    }

    public int least(int strip) {
        return isStrip(strip) ? strips[strip].leastTurning() : NONE;
    }

    public int alike(int one, int other, boolean over) {
        return isStrip(one) && isStrip(other) ? strips[one].turningTo(strips[other], over) : NONE;
    }

    public int mirror(int strip) {
        if (!isStrip(strip)) {
            return NONE;
        }
        return strips[strip].turningTo(strips[strip], true) == NONE ? 0 : 1;
    }

    public int rows(int strip, int m) {
        return isStrip(strip) && m >= 1 && m <= 8 ? strips[strip].unlikeRows(m) : NONE;
    }

    /** Burnside: the mean of how many strips each turning (and each turning over) leaves as they are. */
    public int kinds(int n, int q, boolean over) {
        if (n < 1 || n > 12 || q < 1 || q > 6) {
            return NONE;
        }
        long left = 0;
        for (int k = 0; k < n; k++) {
            left += power(q, commonDivisor(k, n));
            left += over ? power(q, pairsOver(k, n)) : 0;
        }
        return (int) (left / (over ? 2 * n : n));
    }

    private static long power(int q, int exponent) {
        long product = 1;
        for (int i = 0; i < exponent; i++) {
            product *= q;
        }
        return product;
    }

    private static int commonDivisor(int k, int n) {
        for (int d = n; d > 1; d--) {
            if (n % d == 0 && k % d == 0) {
                return d;
            }
        }
        return 1;
    }

    /** Turned over about k, place i goes to k - i: pairs of places, and single ones that stay. */
    private static int pairsOver(int k, int n) {
        int staying = 0;
        for (int i = 0; i < n; i++) {
            staying += round(k - i, n) == i ? 1 : 0;
        }
        return (n + staying) / 2;
    }

    // ---- the unknown wheel

    public int noted(int tick, int picture, boolean is) {
        if (tick < 0 || tick > 99 || picture < 0 || picture > BLANK) {
            return NONE;
        }
        return notes.add(tick, picture, is);
    }

    public int fits(int i) {
        notes.find(strips);
        return i == NONE ? notes.found : notes.foundAt(i);
    }

    public int ask() {
        notes.find(strips);
        return notes.bestTick(strips);
    }

    // ---- games and odds

    public int game(int wheel, int x, int y, int what) {
        if (!isWheel(wheel) || x < 1 || x > 4 || y < 0 || y > 3) {
            return HIDDEN;
        }
        switch (what) {
            case 0: return lookerHas(wheel, x, y);
            case 1: return turnerHas(wheel, x, y);
            default: return HIDDEN;
        }
    }

    public int rests(int wheel, int i) {
        if (!isWheel(wheel)) {
            return NONE;
        }
        int found = 0;
        for (int x = 1; x <= 4; x++) {
            for (int y = 0; y <= 3; y++) {
                if (isRest(wheel, x, y)) {
                    if (found == i) {
                        return 10 * x + y;
                    }
                    found++;
                }
            }
        }
        return i == NONE ? found : NONE;
    }

    private boolean isRest(int wheel, int x, int y) {
        int looker = lookerHas(wheel, x, y);
        int turner = turnerHas(wheel, x, y);
        boolean rest = true;
        for (int k = 0; k < 4; k++) {
            rest = rest && lookerHas(wheel, k + 1, y) <= looker && turnerHas(wheel, x, k) <= turner;
        }
        return rest;
    }

    private int lookerHas(int wheel, int x, int y) {
        return 2 * unlikeSeen(scene.wheels[wheel], x * y) - x;
    }

    private int turnerHas(int wheel, int x, int y) {
        return 9 - unlikeSeen(scene.wheels[wheel], x * y) + y;
    }

    private int unlikeSeen(Wheel wheel, int turn) {
        Strip strip = stripOf(wheel);
        int seen = 0;
        for (int i = 0; i <= 5; i++) {
            seen |= 1 << strip.shownAt(wheel.place + i * turn);
        }
        return Integer.bitCount(withoutBlank(seen));
    }

    private static int withoutBlank(int pictures) {
        return pictures & (1 << BLANK) - 1;
    }

    public int odds(int wheel, int n, int chance, int picture) {
        if (!isWheel(wheel) || n < 0 || n > MOST_SLIPS || chance < 0 || chance > 100
                || picture < 0 || picture > BLANK) {
            return NONE;
        }
        return courseOf(wheel).partsShowing(n, chance, picture);
    }

    public int shares(int wheel, int c) {
        if (!isWheel(wheel) || c < 0 || c > 999) {
            return NONE;
        }
        int all = 0;
        for (int w = 0; w < scene.wheelCount; w++) {
            all += scene.wheels[w].speed;
        }
        return all < 1 ? 0 : c * scene.wheels[wheel].speed / all;
    }

    // ---- the most of all

    public int most(int what) {
        if (!isLit()) {
            return NONE;
        }
        switch (what) {
            case 0: return fastest();
            case 1: return longest();
            case 2: return commonest();
            case 3: return shownNow();
            case 4: return twins();
            case 5: return turningBack();
            case 6: return bareNow();
            case 7: return still();
            case 8: return byPlace();
            case 9: return scene.flash - round(scene.tick, scene.flash);
            default: return NONE;
        }
    }

    private int fastest() {
        int best = 0;
        for (int w = 1; w < scene.wheelCount; w++) {
            best = scene.wheels[w].speed > scene.wheels[best].speed ? w : best;
        }
        return best;
    }

    private int longest() {
        int best = 0;
        for (int w = 1; w < scene.wheelCount; w++) {
            best = stripOf(scene.wheels[w]).size() > stripOf(scene.wheels[best]).size() ? w : best;
        }
        return best;
    }

    private int commonest() {
        int best = NONE;
        int bestCount = 0;
        for (int picture = 0; picture < BLANK; picture++) {
            int count = 0;
            for (int s = 0; s < stripCount; s++) {
                count += isStrip(s) && strips[s].has(picture) ? 1 : 0;
            }
            if (count > bestCount) {
                best = picture;
                bestCount = count;
            }
        }
        return best;
    }

    private int shownNow() {
        int pictures = 0;
        for (int w = 0; w < scene.wheelCount; w++) {
            pictures |= 1 << shown(scene.wheels[w]);
        }
        return withoutBlank(pictures);
    }

    private int twins() {
        int pairs = 0;
        for (int one = 0; one < scene.wheelCount; one++) {
            int sight = shown(scene.wheels[one]);
            for (int other = one + 1; other < scene.wheelCount && sight != BLANK; other++) {
                pairs += shown(scene.wheels[other]) == sight ? 1 : 0;
            }
        }
        return pairs;
    }

    private int turningBack() {
        int bits = 0;
        for (int w = 0; w < scene.wheelCount; w++) {
            bits |= scene.wheels[w].isBack ? 1 << w : 0;
        }
        return bits;
    }

    private int bareNow() {
        int bits = 0;
        for (int w = 0; w < scene.wheelCount; w++) {
            bits |= isStrip(scene.wheels[w].number) ? 0 : 1 << w;
        }
        return bits;
    }

    private int still() {
        int bits = 0;
        for (int w = 0; w < scene.wheelCount; w++) {
            bits |= nextPlace(w) == scene.wheels[w].place ? 1 << w : 0;
        }
        return bits;
    }

    private int byPlace() {
        int row = 0;
        int told = 0;
        for (int k = 0; k < scene.wheelCount; k++) {
            int first = NONE;
            for (int w = 0; w < scene.wheelCount; w++) {
                boolean open = (told >> w & 1) == 0;
                if (open && (first == NONE || scene.wheels[w].place < scene.wheels[first].place)) {
                    first = w;
                }
            }
            told |= first == NONE ? 0 : 1 << first;
            row = row * 10 + first;
        }
        return row;
    }

    // ---- images and counts

    public int image() {
        if (!isLit()) {
            return NONE;
        }
        kept.copyFrom(scene);
        hasImage = true;
        return scene.tick;
    }

    public int back() {
        if (!hasImage) {
            return NONE;
        }
        scene.copyFrom(kept);
        past.clear();
        return scene.tick;
    }

    public int count(int what) {
        switch (what) {
            case 0: return scene.wheelCount;
            case 1: return lawCount;
            case 2: return stripCount;
            case 3: return tapeSize;
            case 4: return holding;
            case 5: return scene.tick;
            case 6: return touchBelow;
            case 7: return notes.size;
            case 8: return scene.rowCount();
            case 9: return past.size;
            default: return HIDDEN;
        }
    }

    // ---- numbers

    /** Modulo n, 0 .. n less 1 also of numbers below 0. */
    private static int round(int number, int n) {
        return n < 1 ? 0 : Math.floorMod(number, n);
    }

    private static int within(long number, int least, int most) {
        return (int) Math.max(least, Math.min(most, number));
    }

    // ---- classes

    /** A wheel as it stands; which pictures are round it only its strip's number tells. */
    private static final class Wheel {
        int speed = 0;
        boolean isBack = false;
        int place = 0;
        int number = 0;

        int velocity() {
            return isBack ? -speed : speed;
        }

        void copyFrom(Wheel other) {
            speed = other.speed;
            isBack = other.isBack;
            place = other.place;
            number = other.number;
        }
    }

    /** All that acts change, so that undoing and images are copies of it. */
    private static final class Scene {
        final Wheel[] wheels = new Wheel[MOST_WHEELS];
        int wheelCount = 0;
        int flash = 0;
        int oil = 0;
        int coins = 0;
        int tick = 0;
        final int[] rowRing = new int[MOST_ROWS];
        int rowsEver = 0;

        Scene() {
            for (int w = 0; w < wheels.length; w++) {
                wheels[w] = new Wheel();
            }
        }

        void copyFrom(Scene other) {
            for (int w = 0; w < wheels.length; w++) {
                wheels[w].copyFrom(other.wheels[w]);
            }
            wheelCount = other.wheelCount;
            flash = other.flash;
            oil = other.oil;
            coins = other.coins;
            tick = other.tick;
            System.arraycopy(other.rowRing, 0, rowRing, 0, MOST_ROWS);
            rowsEver = other.rowsEver;
        }

        void addRow(int row) {
            rowRing[round(rowsEver, MOST_ROWS)] = row;
            rowsEver++;
        }

        int rowCount() {
            return Math.min(MOST_ROWS, rowsEver);
        }

        int rowBefore(int i) {
            return rowRing[round(rowsEver - 1 - i, MOST_ROWS)];
        }
    }

    /** The scenes ahead of the latest acts, in a ring. */
    private static final class Past {
        private final Scene[] scenes = new Scene[MOST_ACTS];
        private int next = 0;
        int size = 0;

        Past() {
            for (int i = 0; i < scenes.length; i++) {
                scenes[i] = new Scene();
            }
        }

        void clear() {
            size = 0;
        }

        void keep(Scene scene) {
            scenes[round(next, MOST_ACTS)].copyFrom(scene);
            next = round(next + 1, MOST_ACTS);
            size = Math.min(MOST_ACTS, size + 1);
        }

        int bringBack(Scene scene) {
            if (size < 1) {
                return NONE;
            }
            next = round(next - 1, MOST_ACTS);
            scene.copyFrom(scenes[round(next, MOST_ACTS)]);
            size--;
            return size;
        }
    }

    /** The pictures of a strip, one at least, round as they are. */
    private static final class Strip {
        private final int[] pictures;

        Strip(int[] pictures) {
            this.pictures = pictures;
        }

        int size() {
            return pictures.length;
        }

        int shownAt(int place) {
            return pictures.length < 1 ? BLANK : pictures[round(place, pictures.length)];
        }

        boolean has(int picture) {
            boolean found = false;
            for (int own : pictures) {
                found = found || own == picture;
            }
            return found;
        }

        int leastPeriod() {
            for (int k = 1; k < size(); k++) {
                if (isRow(this, k, false)) {
                    return k;
                }
            }
            return size();
        }

        int turningTo(Strip other, boolean over) {
            for (int k = 0; k < size() && size() == other.size(); k++) {
                if (isRow(other, k, over)) {
                    return k;
                }
            }
            return NONE;
        }

        /** Whether this one, turned over if so asked, then turned by k, is the other's row. */
        private boolean isRow(Strip other, int k, boolean over) {
            boolean same = true;
            for (int i = 0; i < size() && same; i++) {
                int place = k + i;
                same = shownAt(over ? -1 - place : place) == other.shownAt(i);
            }
            return same;
        }

        int leastTurning() {
            int best = 0;
            for (int k = 1; k < size(); k++) {
                best = compareRows(k, best, size()) < 0 ? k : best;
            }
            return best;
        }

        int unlikeRows(int m) {
            int unlike = 0;
            for (int i = 0; i < size(); i++) {
                boolean fresh = true;
                for (int j = 0; j < i && fresh; j++) {
                    fresh = compareRows(i, j, m) != 0;
                }
                unlike += fresh ? 1 : 0;
            }
            return unlike;
        }

        private int compareRows(int one, int other, int m) {
            for (int i = 0; i < m; i++) {
                int order = Integer.compare(shownAt(one + i), shownAt(other + i));
                if (order != 0) {
                    return order;
                }
            }
            return 0;
        }
    }

    /** A law as a row of codes: numbers as they are, all else below 0. */
    private static final class Law {
        static final int NOT = -10;
        static final int UNLESS = -11;
        static final int ANSWER = -12;
        private static final int LETTER = -1;
        private static final int SIGN = -100;
        private static final int BOUND = 1000000;

        private final int[] codes;
        private final int[] stack = new int[64];
        private int height = 0;

        Law(int[] codes) {
            this.codes = codes;
        }

        static int letterCode(int letter) {
            return LETTER - letter;
        }

        static int signCode(int sign) {
            return SIGN - sign;
        }

        int worth(int[] letters) {
            height = 0;
            for (int i = 0; i < codes.length; i++) {
                int code = codes[i];
                int letter = LETTER - code;
                if (code == ANSWER) {
                    return pull();
                }
                if (code == UNLESS) {
                    int target = i + 1 < codes.length ? codes[i + 1] : 0;
                    i = pull() != 0 ? i + 1 : Math.max(i + 1, target - 1);
                } else if (code == NOT) {
                    pile(1 - pull());
                } else if (code >= 0) {
                    pile(code);
                } else if (letter < letters.length) {
                    pile(letters[letter]);
                } else {
                    int right = pull();
                    pile(within(joined(SIGN - code, pull(), right), -BOUND, BOUND));
                }
            }
            return 0;
        }

        private static long joined(int sign, int left, int right) {
            switch (sign) {
                case '+': return (long) left + right;
                case '-': return (long) left - right;
                case '*': return (long) left * right;
                case '/': return right == 0 ? 0 : left / right;
                case '=': return left == right ? 1 : 0;
                case '<': return left < right ? 1 : 0;
                case '>': return left > right ? 1 : 0;
                case '&': return left & right;
                case '|': return left | right;
                default: return 0;
            }
        }

        private void pile(int number) {
            if (height < stack.length) {
                stack[height] = number;
                height++;
            }
        }

        private int pull() {
            if (height < 1) {
                return 0;
            }
            height--;
            return stack[height];
        }
    }

    /** Where a wheel goes from now on; its place and the tick modulo 24 tell all, so it soon goes round. */
    private static final class Course {
        private static final int WHOLE = 1000000000;

        private int velocity = 0;
        private int home = 0;
        private Strip strip = new Strip(new int[] {BLANK});
        private Law law = null;
        private int tick = 0;
        private final int[] letters = new int[6];
        private final int[] path = new int[MOST_PICTURES * DAY + 1];
        private final int[] firstStep = new int[MOST_PICTURES * DAY];
        private int steps = 0;
        private int loopStart = 0;

        void set(Wheel wheel, Strip strip, Law law, int flash, int tick) {
            this.strip = strip;
            this.law = law;
            this.tick = tick;
            velocity = wheel.velocity();
            home = wheel.place;
            letters[0] = velocity;
            letters[2] = strip.size();
            letters[5] = flash;
        }

        int movedFrom(int place, int tickThen) {
            int by = velocity;
            if (law != null) {
                letters[1] = place;
                letters[3] = strip.shownAt(place);
                letters[4] = round(tickThen, DAY);
                by = within(law.worth(letters), -15, 15);
            }
            return round(place + by, strip.size());
        }

        void trace() {
            Arrays.fill(firstStep, NONE);
            loopStart = 0;
            int place = home;
            for (steps = 0; steps < path.length; steps++) {
                int state = place * DAY + (law == null ? 0 : round(tick + steps, DAY));
                if (state < 0 || state >= firstStep.length) {
                    return;
                }
                if (firstStep[state] != NONE) {
                    loopStart = firstStep[state];
                    return;
                }
                firstStep[state] = steps;
                path[steps] = place;
                place = movedFrom(place, tick + steps);
            }
        }

        int placeAfter(int n) {
            int step = n < steps ? n : loopStart + round(n - loopStart, steps - loopStart);
            return step >= 0 && step < path.length ? path[step] : home;
        }

        int shownAfter(int n) {
            return strip.shownAt(placeAfter(n));
        }

        boolean isHomeAfter(int n) {
            return placeAfter(n) == home;
        }

        boolean isStillBy(int f) {
            boolean stays = true;
            for (int k = 1; k <= 6 && stays; k++) {
                stays = isHomeAfter(k * f);
            }
            return stays;
        }

        int partsShowing(int n, int chance, int picture) {
            return (int) showingOf(WHOLE, home, 0, Math.min(n, MOST_SLIPS), chance, picture);
        }

        /** Two parts that come to one place are not joined: each is cut by itself at the next tick. */
        private long showingOf(long part, int place, int step, int n, int chance, int picture) {
            if (step >= n) {
                return strip.shownAt(place) == picture ? part : 0;
            }
            long slipping = part * chance / 100;
            int next = movedFrom(place, tick + step);
            return showingOf(slipping, place, step + 1, n, chance, picture)
                    + showingOf(part - slipping, next, step + 1, n, chance, picture);
        }
    }

    /** What was noted of the unknown wheel, and what fits it. */
    private static final class Notes {
        private final int[] noteTicks = new int[MOST_NOTES];
        private final int[] notePictures = new int[MOST_NOTES];
        private final boolean[] noteIs = new boolean[MOST_NOTES];
        int size = 0;
        private final int[] finds = new int[MOST_STRIPS * 10 * MOST_PICTURES];
        int found = 0;
        private final int[] showing = new int[BLANK + 1];

        void clear() {
            size = 0;
        }

        int add(int tick, int picture, boolean is) {
            if (size >= MOST_NOTES) {
                return NONE;
            }
            noteTicks[size] = tick;
            notePictures[size] = picture;
            noteIs[size] = is;
            size++;
            return size;
        }

        void find(Strip[] strips) {
            found = 0;
            for (int s = 0; s < strips.length; s++) {
                for (int v = 0; v <= 9 && strips[s] != null; v++) {
                    for (int place = 0; place < strips[s].size(); place++) {
                        if (isSo(strips[s], v, place) && found < finds.length) {
                            finds[found] = 1000 * s + 100 * v + place;
                            found++;
                        }
                    }
                }
            }
        }

        private boolean isSo(Strip strip, int v, int place) {
            boolean so = true;
            for (int i = 0; i < size && i < MOST_NOTES && so; i++) {
                so = (strip.shownAt(place + v * noteTicks[i]) == notePictures[i]) == noteIs[i];
            }
            return so;
        }

        int foundAt(int i) {
            return i < 0 || i >= found ? NONE : finds[i];
        }

        int bestTick(Strip[] strips) {
            int best = NONE;
            int fewest = found + 1;
            for (int tick = 0; tick <= 60 && found > 0; tick++) {
                int alike = mostAlike(strips, tick);
                if (alike < fewest) {
                    best = tick;
                    fewest = alike;
                }
            }
            return best;
        }

        private int mostAlike(Strip[] strips, int tick) {
            Arrays.fill(showing, 0);
            int most = 0;
            for (int i = 0; i < found && i < finds.length; i++) {
                int s = finds[i] / 1000;
                int v = finds[i] / 100 % 10;
                int place = finds[i] % 100;
                if (s >= 0 && s < strips.length && strips[s] != null) {
                    int picture = strips[s].shownAt(place + v * tick);
                    if (picture >= 0 && picture < showing.length) {
                        showing[picture]++;
                        most = Math.max(most, showing[picture]);
                    }
                }
            }
            return most;
        }
    }

    /** Goes over the tape sign by sign and stops at the fault. */
    private abstract static class Reader {
        static final int END = -1;

        private int[] signs = new int[0];
        private int length = 0;
        int here = 0;

        /** Reads all; if it is wrong, here is the fault. */
        abstract boolean isWhole();

        void start(int[] tape, int tapeSize) {
            signs = tape;
            length = Math.min(tapeSize, tape.length);
            here = 0;
        }

        /** The next sign that is no blank. */
        int nextSign() {
            while (here < length && signs[here] == ' ') {
                here++;
            }
            return here < length ? signs[here] : END;
        }

        boolean takes(int sign) {
            boolean there = nextSign() == sign;
            here += there ? 1 : 0;
            return there;
        }

        /** The number that begins here; NONE, and here is the fault, if there is none such. */
        int number(int mostDigits, int least, int most) {
            int digits = 0;
            int value = 0;
            int end = Math.min(length, here + mostDigits + 1);
            while (here + digits < end && signs[here + digits] >= '0' && signs[here + digits] <= '9') {
                value = value * 10 + signs[here + digits] - '0';
                digits++;
            }
            if (digits == 0) {
                return NONE;
            }
            if (digits > mostDigits) {
                here += mostDigits;
                return NONE;
            }
            boolean right = value >= least && value <= most;
            here += right ? digits : digits - 1;
            return right ? value : NONE;
        }

        /** Which of these letters the sign is; NONE: none of them. */
        static int letterOf(String letters, int sign) {
            return sign == END ? NONE : letters.indexOf((char) sign);
        }
    }

    private static final class LanternReader extends Reader {
        private static final String RULES = "fok";
        private static final int[] RULE_LEAST = {1, 0, 0};
        private static final int[] RULE_MOST = {60, 99, 99};
        private static final int[] RULE_WITHOUT = {6, 40, 20};
        private static final String TRAITS = "vbpr";
        private static final int[] TRAIT_LEAST = {0, 0, 0, 0};
        private static final int[] TRAIT_MOST = {9, 1, 15, 5};
        private static final int[] TRAIT_WITHOUT = {1, 0, 0, 0};

        private final int[] rules = new int[3];
        private boolean hasRules = false;
        private final int[] traits = new int[4 * MOST_WHEELS];
        private int wheels = 0;

        boolean isWhole() {
            System.arraycopy(RULE_WITHOUT, 0, rules, 0, 3);
            hasRules = false;
            wheels = 0;
            for (int i = 0; i <= MOST_BYTES; i++) {
                if (!isClause()) {
                    return false;
                }
                if (!takes(';')) {
                    return nextSign() == END && wheels > 0;
                }
            }
            return false;
        }

        private boolean isClause() {
            if (!hasRules && takes('s')) {
                hasRules = true;
                return areItems(RULES, RULE_LEAST, RULE_MOST, rules, 0);
            }
            if (wheels < MOST_WHEELS && takes('w')) {
                int start = 4 * wheels;
                wheels++;
                System.arraycopy(TRAIT_WITHOUT, 0, traits, start, 4);
                return areItems(TRAITS, TRAIT_LEAST, TRAIT_MOST, traits, start);
            }
            nextSign();
            return false;
        }

        /** Items till another sign comes; a letter that was there is the fault itself. */
        private boolean areItems(String letters, int[] least, int[] most, int[] values, int start) {
            int had = 0;
            for (int i = 0; i <= letters.length(); i++) {
                int which = letterOf(letters, nextSign());
                if (which < 0 || which >= least.length || which >= most.length) {
                    return true;
                }
                if ((had >> which & 1) != 0) {
                    return false;
                }
                had |= 1 << which;
                here++;
                nextSign();
                int value = number(2, least[which], most[which]);
                if (value == NONE || start + which >= values.length) {
                    return false;
                }
                values[start + which] = value;
            }
            return false;
        }

        /** Makes the scene that of the lantern just read, places as they were told. */
        void tell(Scene scene) {
            scene.flash = rules[0];
            scene.oil = rules[1];
            scene.coins = rules[2];
            scene.tick = 0;
            scene.rowsEver = 0;
            scene.wheelCount = wheels;
            for (int w = 0; w < wheels && w < MOST_WHEELS; w++) {
                Wheel wheel = scene.wheels[w];
                wheel.speed = traits[4 * w];
                wheel.isBack = traits[4 * w + 1] == 1;
                wheel.place = traits[4 * w + 2];
                wheel.number = traits[4 * w + 3];
            }
        }
    }

    /** Writes a law's codes behind one another, operands first, as it reads it. */
    private static final class LawReader extends Reader {
        private static final int DEEPEST = 6;
        private static final String LETTERS = "vplntf";

        private final int[] codes = new int[3 * MOST_BYTES];
        private int size = 0;

        boolean isWhole() {
            size = 0;
            for (int i = 0; i <= MOST_BYTES; i++) {
                if (!isClause()) {
                    return false;
                }
                if (!takes(';')) {
                    return nextSign() == END;
                }
            }
            return false;
        }

        int[] written() {
            return Arrays.copyOf(codes, size);
        }

        private void write(int code) {
            if (size < codes.length) {
                codes[size] = code;
                size++;
            }
        }

        private boolean isClause() {
            if (!takes('y') || !takes(':')) {
                return false;
            }
            int sign = nextSign();
            if (sign == '!' || sign == '(') {
                return isCondition(0) && isAnswerIf();
            }
            if (!isSum(0)) {
                return false;
            }
            if (isComparison(nextSign())) {
                return isCompared(0) && areMoreUnits(0) && areMoreTruths(0) && isAnswerIf();
            }
            write(Law.ANSWER);
            return true;
        }

        private boolean isAnswerIf() {
            if (!takes('?')) {
                return false;
            }
            write(Law.UNLESS);
            int target = size;
            write(0);
            if (!isSum(0)) {
                return false;
            }
            write(Law.ANSWER);
            if (target < codes.length) {
                codes[target] = size;
            }
            return true;
        }

        private boolean isCondition(int depth) {
            return isTruth(depth) && areMoreTruths(depth);
        }

        private boolean areMoreTruths(int depth) {
            for (int i = 0; i <= MOST_BYTES && takes('|'); i++) {
                if (!isTruth(depth)) {
                    return false;
                }
                write(Law.signCode('|'));
            }
            return true;
        }

        private boolean isTruth(int depth) {
            return isUnit(depth) && areMoreUnits(depth);
        }

        private boolean areMoreUnits(int depth) {
            for (int i = 0; i <= MOST_BYTES && takes('&'); i++) {
                if (!isUnit(depth)) {
                    return false;
                }
                write(Law.signCode('&'));
            }
            return true;
        }

        private boolean isUnit(int depth) {
            int sign = nextSign();
            if (sign != '!' && sign != '(') {
                return isSum(depth) && isCompared(depth);
            }
            if (depth >= DEEPEST) {
                return false;
            }
            here++;
            if (sign == '(') {
                return isCondition(depth + 1) && takes(')');
            }
            if (!isUnit(depth + 1)) {
                return false;
            }
            write(Law.NOT);
            return true;
        }

        private static boolean isComparison(int sign) {
            return sign == '=' || sign == '<' || sign == '>';
        }

        /** The sign of a comparison and what stands behind it. */
        private boolean isCompared(int depth) {
            int sign = nextSign();
            if (!isComparison(sign)) {
                return false;
            }
            here++;
            if (!isSum(depth)) {
                return false;
            }
            write(Law.signCode(sign));
            return true;
        }

        private boolean isSum(int depth) {
            if (!isTerm(depth)) {
                return false;
            }
            int sign = nextSign();
            for (int i = 0; i <= MOST_BYTES && (sign == '+' || sign == '-'); i++) {
                here++;
                if (!isTerm(depth)) {
                    return false;
                }
                write(Law.signCode(sign));
                sign = nextSign();
            }
            return true;
        }

        private boolean isTerm(int depth) {
            if (!isAtom(depth)) {
                return false;
            }
            int sign = nextSign();
            for (int i = 0; i <= MOST_BYTES && (sign == '*' || sign == '/'); i++) {
                here++;
                if (!isAtom(depth)) {
                    return false;
                }
                write(Law.signCode(sign));
                sign = nextSign();
            }
            return true;
        }

        private boolean isAtom(int depth) {
            int sign = nextSign();
            if (sign == '[') {
                if (depth >= DEEPEST) {
                    return false;
                }
                here++;
                return isSum(depth + 1) && takes(']');
            }
            int letter = letterOf(LETTERS, sign);
            if (letter >= 0) {
                here++;
                write(Law.letterCode(letter));
                return true;
            }
            int value = number(4, 0, 9999);
            if (value == NONE) {
                return false;
            }
            write(value);
            return true;
        }
    }

    private static final class StripReader extends Reader {
        private final int[] pictures = new int[MOST_PICTURES];
        private int size = 0;

        boolean isWhole() {
            size = 0;
            for (int i = 0; i <= MOST_BYTES; i++) {
                int sign = nextSign();
                if (sign == END) {
                    return size > 0;
                }
                int times = 1;
                if (sign >= '2' && sign <= '9') {
                    times = sign - '0';
                    here++;
                    sign = nextSign();
                }
                int picture = pictureOf(sign);
                if (picture == NONE || size + times > MOST_PICTURES) {
                    return false;
                }
                here++;
                add(picture, times);
            }
            return false;
        }

        private static int pictureOf(int sign) {
            if (sign >= 'a' && sign <= 'z') {
                return sign - 'a';
            }
            return sign == '.' ? BLANK : NONE;
        }

        private void add(int picture, int times) {
            for (int i = 0; i < times && size < pictures.length; i++) {
                pictures[size] = picture;
                size++;
            }
        }

        int[] written() {
            return Arrays.copyOf(pictures, size);
        }
    }
}
