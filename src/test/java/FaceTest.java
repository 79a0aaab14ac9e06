import java.io.IOException;
import java.lang.reflect.Constructor;
import java.lang.reflect.Field;
import java.lang.reflect.Method;
import java.lang.reflect.Modifier;
import java.nio.file.Files;
import java.nio.file.Path;
import java.util.ArrayList;
import java.util.Arrays;
import java.util.List;
import java.util.Set;
import java.util.TreeSet;
import java.util.regex.Matcher;
import java.util.regex.Pattern;

/** The public face as the document gives it, and no more (LANGUAGE.md 1 and 5). */
public final class FaceTest {
    private static final List<String> FACE = List.of(
        "int people(int)", "int meet(int,int,int,int)", "int drop(int)", "int renew(int,int,int)",
        "int meeting(int,int)", "int delay(int)", "int ask(int,int,int)", "int feed(int)", "int read()",
        "int way(int,int)", "int holder(int,int)", "long sureness(int,int)", "int reach(int)", "int by(int)",
        "int agenda(int)", "int rank(int)", "int between(int,int)", "int told(int)", "int cut(int)",
        "int see(int,int,boolean)", "int fits(int)", "long odds(int)", "long mean(int)", "int event(int,int)",
        "int after(int)", "int book(int,int)", "int looked()", "int judge(int,int)", "int image()", "int undo()",
        "int count(int)", "int tape(int,int,int)", "int item(int,int,long)", "long peek(int,int)",
        "int shift(int,int,int,int,int)");

    private static final Path DOCUMENT = Path.of("../shared/DOC.md");
    private static final Path SOURCE = Path.of("src/main/java/HandRelay.java");

    public static void main(String[] args) throws IOException {
        String document = Files.readString(DOCUMENT);
        String source = Files.readString(SOURCE);
        asTheDocumentTells(document, source);
        asTheInterfaceSays(document, source);
        constants();
        itself();
        methods();
        fields();
        classesInside();
        Check.end();
    }

    /** The heads of the document's face are those of the class, to the letter and one behind the other. */
    private static void asTheDocumentTells(String document, String source) {
        int from = document.indexOf("```java\n") + 8;
        String face = document.substring(from, document.indexOf("```", from));
        List<String> told = matches(face, "public [^;{]*(?=;| \\{)");
        List<String> found = matches(source, "(?m)(?<=^| {4})public [^;{]*(?=;| \\{)");
        Check.due("heads that the document tells", told.size(), 4 + FACE.size());
        Check.due("heads of the class: " + found, found.equals(told));
        Check.says("`NO = Long.MIN_VALUE`: There is no such number.");
        Check.due("NO", new HandRelay().peek(0, 0), Long.MIN_VALUE);
    }

    /** What the interface says ahead of some calls stands ahead of them, and of no others. */
    private static void asTheInterfaceSays(String document, String source) {
        Matcher m = Pattern.compile("(?m)^Ahead of the calls (.*) the interface says: ---- (.*)\\.$").matcher(document);
        String[] parts = source.split("(?m)^ {4}// ---- ");
        int part = 0;
        while (m.find()) {
            part++;
            String here = part < parts.length ? parts[part] : "";
            Check.due("---- " + m.group(2), here.startsWith(m.group(2) + "\n"));
            List<String> calls = matches(m.group(1), "\\w+(?=`)");
            Check.due("the calls behind it: " + calls, matches(here, "(?<=public (?:int|long) )\\w+(?=\\()").equals(calls));
        }
        Check.due("the interface's parts", part, 5);
    }

    private static List<String> matches(String text, String pattern) {
        List<String> all = new ArrayList<>();
        Matcher m = Pattern.compile(pattern).matcher(text);
        while (m.find()) {
            all.add(m.group());
        }
        return all;
    }

    private static void constants() {
        Check.due("NONE", HandRelay.NONE, -1);
        Check.due("BAD", HandRelay.BAD, -2);
        Check.due("STATE", HandRelay.STATE, -3);
        Check.due("FULL", HandRelay.FULL, -4);
        Check.due("NO", HandRelay.NO, Long.MIN_VALUE);
    }

    private static void itself() {
        int all = HandRelay.class.getModifiers();
        Check.due("public and final", Modifier.isPublic(all) && Modifier.isFinal(all));
        Check.due("without a package", HandRelay.class.getPackageName().isEmpty());
        Constructor<?>[] constructors = HandRelay.class.getDeclaredConstructors();
        Check.due("one constructor", constructors.length, 1);
        Check.due("it is public", Modifier.isPublic(constructors[0].getModifiers()));
        Check.due("it takes nothing", constructors[0].getParameterCount(), 0);
    }

    private static void methods() {
        Set<String> found = new TreeSet<>();
        Set<String> names = new TreeSet<>();
        for (Method m : HandRelay.class.getDeclaredMethods()) {
            if (Modifier.isPublic(m.getModifiers())) {
                String parameters = Arrays.stream(m.getParameterTypes()).map(Class::getName)
                    .reduce((a, b) -> a + "," + b).orElse("");
                found.add(m.getReturnType().getName() + " " + m.getName() + "(" + parameters + ")");
                names.add(m.getName());
                Check.due(m + " isn't static", !Modifier.isStatic(m.getModifiers()));
            }
        }
        Check.due("the face's methods: " + found, found.equals(new TreeSet<>(FACE)));
        for (Method m : HandRelay.class.getDeclaredMethods()) {
            if (!Modifier.isPublic(m.getModifiers())) {
                Check.due(m + " is private", Modifier.isPrivate(m.getModifiers()));
                Check.due(m + " has a name of its own", !names.contains(m.getName()));
            }
        }
        for (Class<?> inside : HandRelay.class.getDeclaredClasses()) {
            for (Method m : inside.getDeclaredMethods()) {
                Check.due(m + " has a name of its own", !names.contains(m.getName()));
            }
        }
    }

    private static void fields() {
        Set<String> constants = Set.of("NONE", "BAD", "STATE", "FULL", "NO");
        int found = 0;
        for (Field f : HandRelay.class.getDeclaredFields()) {
            boolean isOfFace = constants.contains(f.getName());
            found += isOfFace ? 1 : 0;
            Check.due(f + " is as hidden as it should", isOfFace == Modifier.isPublic(f.getModifiers())
                && isOfFace != Modifier.isPrivate(f.getModifiers()));
            Check.due(f + " is final, if static", !Modifier.isStatic(f.getModifiers())
                || Modifier.isFinal(f.getModifiers()));
        }
        Check.due("the face's constants", found, 5);
    }

    private static void classesInside() {
        Class<?>[] inside = HandRelay.class.getDeclaredClasses();
        Check.due("some twelve classes at most", inside.length < 12);
        for (Class<?> c : inside) {
            int all = c.getModifiers();
            Check.due(c + " is static", Modifier.isStatic(all));
            Check.due(c + " isn't public", !Modifier.isPublic(all) && !Modifier.isProtected(all));
            Check.due(c + " has some twenty fields at most", Arrays.stream(c.getDeclaredFields())
                .filter(f -> !Modifier.isStatic(f.getModifiers())).count() <= 20);
            for (Field f : c.getDeclaredFields()) {
                Check.due(f + " is final, if static", !Modifier.isStatic(f.getModifiers())
                    || Modifier.isFinal(f.getModifiers()));
            }
        }
    }
}
