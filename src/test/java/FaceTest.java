import java.lang.reflect.Constructor;
import java.lang.reflect.Field;
import java.lang.reflect.Method;
import java.lang.reflect.Modifier;
import java.util.Arrays;
import java.util.List;
import java.util.Set;
import java.util.TreeSet;

/** The public face as the document gives it, and no more (LANGUAGE.md 1 and 5). */
public final class FaceTest {
    private static final List<String> FACE = List.of(
        "int people(int)", "int meet(int,int,int,int)", "int drop(int)", "int renew(int,int,int)",
        "int meeting(int,int)", "int delay(int)", "int ask(int,int,int)", "int feed(int)", "int read()",
        "int way(int,int)", "int holder(int,int)", "long sureness(int,int)", "int reach(int)", "int by(int)",
        "int agenda(int)", "int rank(int)", "int between(int,int)", "int told(int)", "int cut(int)",
        "int see(int,int,boolean)", "int fits(int)", "long odds(int)", "long mean(int)", "int event(int,int)",
        "int after(int)", "int book(int,int)", "int looked()", "int judge(int,int)", "int image()", "int undo()",
        "int count(int)", "int tape(int,int,int)", "int item(int,int,long)", "long peek(int,int)",
        "int shift(int,int,int,int,int)");

    public static void main(String[] args) {
        constants();
        itself();
        methods();
        fields();
        classesInside();
        Check.end();
    }

    private static void constants() {
        Check.due("NONE", HandRelay.NONE, -1);
        Check.due("BAD", HandRelay.BAD, -2);
        Check.due("STATE", HandRelay.STATE, -3);
        Check.due("FULL", HandRelay.FULL, -4);
        Check.due("NO", HandRelay.NO, Long.MIN_VALUE);
    }

    private static void itself() {
        int all = HandRelay.class.getModifiers();
        Check.due("public and final", Modifier.isPublic(all) && Modifier.isFinal(all));
        Check.due("without a package", HandRelay.class.getPackageName().isEmpty());
        Constructor<?>[] constructors = HandRelay.class.getDeclaredConstructors();
        Check.due("one constructor", constructors.length, 1);
        Check.due("it is public", Modifier.isPublic(constructors[0].getModifiers()));
        Check.due("it takes nothing", constructors[0].getParameterCount(), 0);
    }

    private static void methods() {
        Set<String> found = new TreeSet<>();
        Set<String> names = new TreeSet<>();
        for (Method m : HandRelay.class.getDeclaredMethods()) {
            if (Modifier.isPublic(m.getModifiers())) {
                String parameters = Arrays.stream(m.getParameterTypes()).map(Class::getName)
                    .reduce((a, b) -> a + "," + b).orElse("");
                found.add(m.getReturnType().getName() + " " + m.getName() + "(" + parameters + ")");
                names.add(m.getName());
                Check.due(m + " isn't static", !Modifier.isStatic(m.getModifiers()));
            }
        }
        Check.due("the face's methods: " + found, found.equals(new TreeSet<>(FACE)));
        for (Method m : HandRelay.class.getDeclaredMethods()) {
            if (!Modifier.isPublic(m.getModifiers())) {
                Check.due(m + " is private", Modifier.isPrivate(m.getModifiers()));
                Check.due(m + " has a name of its own", !names.contains(m.getName()));
            }
        }
        for (Class<?> inside : HandRelay.class.getDeclaredClasses()) {
            for (Method m : inside.getDeclaredMethods()) {
                Check.due(m + " has a name of its own", !names.contains(m.getName()));
            }
        }
    }

    private static void fields() {
        Set<String> constants = Set.of("NONE", "BAD", "STATE", "FULL", "NO");
        int found = 0;
        for (Field f : HandRelay.class.getDeclaredFields()) {
            boolean isOfFace = constants.contains(f.getName());
            found += isOfFace ? 1 : 0;
            Check.due(f + " is as hidden as it should", isOfFace == Modifier.isPublic(f.getModifiers())
                && isOfFace != Modifier.isPrivate(f.getModifiers()));
            Check.due(f + " is final, if static", !Modifier.isStatic(f.getModifiers())
                || Modifier.isFinal(f.getModifiers()));
        }
        Check.due("the face's constants", found, 5);
    }

    private static void classesInside() {
        Class<?>[] inside = HandRelay.class.getDeclaredClasses();
        Check.due("some twelve classes at most", inside.length < 12);
        for (Class<?> c : inside) {
            int all = c.getModifiers();
            Check.due(c + " is static", Modifier.isStatic(all));
            Check.due(c + " isn't public", !Modifier.isPublic(all) && !Modifier.isProtected(all));
            Check.due(c + " has some twenty fields at most", Arrays.stream(c.getDeclaredFields())
                .filter(f -> !Modifier.isStatic(f.getModifiers())).count() <= 20);
            for (Field f : c.getDeclaredFields()) {
                Check.due(f + " is final, if static", !Modifier.isStatic(f.getModifiers())
                    || Modifier.isFinal(f.getModifiers()));
            }
        }
    }
}
