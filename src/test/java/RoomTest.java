import com.sun.management.ThreadMXBean;
import java.lang.management.ManagementFactory;
import java.lang.reflect.Array;
import java.lang.reflect.Field;
import java.lang.reflect.Modifier;
import java.util.IdentityHashMap;
import java.util.Map;

/** Calls make next to nothing: all room is taken when an object, a law or a strip is made. */
public final class RoomTest {
    private static final Checks checks = new Checks("RoomTest");
    private static final ThreadMXBean threads = (ThreadMXBean) ManagementFactory.getThreadMXBean();
    private static final Map<Object, Boolean> met = new IdentityHashMap<>();
    private static long elements = 0;

    public static void main(String[] args) throws IllegalAccessException {
        calls(new SlitDrum(), 20);
        long before = taken();
        SlitDrum drum = new SlitDrum();
        long made = taken() - before;
        checks.same("a new object takes " + made + " bytes", made < 80000, true);
        for (int i = 0; i < 3; i++) {
            Checks.tell(drum, 2, "abcdefgh" + "ijklmnop".substring(i));
        }
        Checks.tell(drum, 0, "so99k99;wv1;wv2r1;wv3r2;wr5");
        drum.law(Checks.tell(drum, 1, "y:p+t>9|!(n=3&v<2)?[p*3-t]/2;y:v+1"));
        before = taken();
        calls(drum, 12);
        long more = taken() - before;
        checks.same("480 calls take " + more + " bytes more", more < 4000, true);
        count(drum);
        checks.same("it has " + met.size() + " objects and arrays", met.size() < 400, true);
        checks.same("it has " + elements + " fields and elements", elements < 10000, true);
        checks.end();
    }

    /** Counts an object with all that hangs on it, as the room of a run is counted. */
    private static void count(Object one) throws IllegalAccessException {
        if (one == null || met.put(one, true) != null) {
            return;
        }
        if (one.getClass().isArray()) {
            elements += Array.getLength(one);
            for (int i = 0; i < Array.getLength(one) && one instanceof Object[]; i++) {
                count(Array.get(one, i));
            }
            return;
        }
        for (Class<?> of = one.getClass(); of != Object.class; of = of.getSuperclass()) {
            for (Field field : of.getDeclaredFields()) {
                if (!Modifier.isStatic(field.getModifiers())) {
                    elements++;
                    field.setAccessible(true);
                    count(field.getType().isPrimitive() ? null : field.get(one));
                }
            }
        }
    }

    private static long taken() {
        return threads.getThreadAllocatedBytes(Thread.currentThread().getId());
    }

    /** Forty calls, so many times. */
    private static void calls(SlitDrum drum, int times) {
        for (int i = 0; i < times; i++) {
            drum.ticks(60);
            drum.years(60, i);
            drum.flash(i + 2);
            drum.speed(0, i % 10);
            drum.about(1);
            drum.push(1, 4);
            drum.puts(0, i % 3);
            drum.oil(2);
            drum.give(40);
            drum.undo();
            drum.image();
            drum.back();
            drum.at(0, 99);
            drum.seems(1, 60);
            drum.stands(2, -1);
            drum.together();
            drum.again(0);
            drum.again(-1);
            drum.meets(0, 1);
            drum.reads(1);
            drum.period(0);
            drum.least(1);
            drum.alike(0, 1, true);
            drum.mirror(2);
            drum.rows(0, 8);
            drum.kinds(12, 6, true);
            drum.noted(i, 3, false);
            drum.fits(-1);
            drum.ask();
            drum.game(0, 1, 1, 0);
            drum.rests(0, -1);
            drum.odds(0, 8, 37, 3);
            drum.shares(0, 99);
            drum.most(7);
            drum.most(8);
            drum.log(3, 3);
            drum.feed(0x793a763d, 0x313f5b70, 0x5d000000, 0, 0);
            drum.fault(1);
            drum.fault(0);
            drum.end(0);
        }
    }
}
