import java.lang.reflect.Constructor;
import java.lang.reflect.Field;
import java.lang.reflect.Method;
import java.lang.reflect.Modifier;
import java.util.Set;
import java.util.TreeSet;

/** The face is the document's, and nothing else can be seen of the class (rule 1). */
public final class FaceTest {
    private static final String FACE =
            "int feed(int,int,int,int,int) boolean end(int) int fault(int) int text(int) int rule(int) "
            + "int wheel(int,int) int picture(int,int) boolean law(int) boolean touch(int) int ticks(int) "
            + "int flash(int) int speed(int,int) int about(int) int push(int,int) int puts(int,int) "
            + "int oil(int) int give(int) int years(int,long) int status(int) int undo() int log(int,int) "
            + "int at(int,int) int seems(int,int) int stands(int,int) int together() int again(int) "
            + "int meets(int,int) int reads(int) int period(int) int least(int) int alike(int,int,boolean) "
            + "int mirror(int) int rows(int,int) int kinds(int,int,boolean) int noted(int,int,boolean) "
            + "int fits(int) int ask() int game(int,int,int,int) int rests(int,int) "
            + "int odds(int,int,int,int) int shares(int,int) int most(int) int image() int back() int count(int)";

    public static void main(String[] args) {
        Checks checks = new Checks("FaceTest");
        Set<String> want = new TreeSet<>();
        for (String method : FACE.split(" (?=int |boolean )")) {
            want.add(method);
        }
        Set<String> got = new TreeSet<>();
        Set<String> names = new TreeSet<>();
        for (Method method : SlitDrum.class.getDeclaredMethods()) {
            if (!Modifier.isPrivate(method.getModifiers())) {
                got.add(told(method));
                names.add(method.getName());
            }
        }
        if (!want.equals(got)) {
            System.out.println("due " + want + "\ngot " + got);
        }
        checks.same("the face's methods", want.equals(got), true);
        checks.same("how many", want.size(), 45);
        noPrivateBearsAName(checks, SlitDrum.class, names);
        for (Class<?> inside : SlitDrum.class.getDeclaredClasses()) {
            checks.same(inside + " is static", Modifier.isStatic(inside.getModifiers()), true);
            checks.same(inside + " is not public", Modifier.isPublic(inside.getModifiers()), false);
            noPrivateBearsAName(checks, inside, names);
        }
        Set<String> fields = new TreeSet<>();
        for (Field field : SlitDrum.class.getDeclaredFields()) {
            if (!Modifier.isPrivate(field.getModifiers())) {
                fields.add(field.getName());
            }
        }
        checks.same("the face's constants", fields.equals(Set.of("NONE", "HIDDEN")), true);
        checks.same("NONE", SlitDrum.NONE, -1);
        checks.same("HIDDEN", SlitDrum.HIDDEN, -1000000);
        Constructor<?>[] made = SlitDrum.class.getDeclaredConstructors();
        checks.same("constructors", made.length, 1);
        checks.same("public", Modifier.isPublic(made[0].getModifiers()), true);
        checks.same("final", Modifier.isFinal(SlitDrum.class.getModifiers()), true);
        checks.end();
    }

    private static void noPrivateBearsAName(Checks checks, Class<?> of, Set<String> names) {
        for (Method method : of.getDeclaredMethods()) {
            if (of != SlitDrum.class || Modifier.isPrivate(method.getModifiers())) {
                checks.same(of + "." + method.getName() + " bears a name of the face",
                        names.contains(method.getName()), false);
            }
        }
    }

    private static String told(Method method) {
        StringBuilder told = new StringBuilder();
        told.append(method.getReturnType().getName()).append(' ').append(method.getName()).append('(');
        String between = "";
        for (Class<?> type : method.getParameterTypes()) {
            told.append(between).append(type.getName());
            between = ",";
        }
        return told.append(')').toString();
    }
}
