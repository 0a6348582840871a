import java.io.IOException;
import java.lang.reflect.Field;
import java.lang.reflect.Member;
import java.lang.reflect.Method;
import java.lang.reflect.Modifier;
import java.nio.file.Files;
import java.nio.file.Path;
import java.util.Arrays;
import java.util.TreeSet;
import java.util.regex.Matcher;
import java.util.regex.Pattern;
import java.util.stream.Collectors;

/** The document's public face, its constants, and those rules of LANGUAGE.md that can be seen from outside. */
public final class FaceTest {
    private static final Checks c = new Checks();
    private static final String[] FACE = {
        "int child(int,int,int,int)", "int leave(int)", "int law(int,int)", "int purse(int,int)",
        "int offer(int,int,int,int)", "int witness(int,int)", "int say(int)", "int wipe()", "int fault()",
        "int judge(int)", "int behind(int,int)", "int holds(int,int)", "int wrong(int)", "int done()",
        "int saints()", "int lacks(int)", "long odds(int,int,int,int,int,int)", "int back(int,int)",
        "int fewest(int,int)", "int day(int)", "int rivals(int,int,int)", "int share(int,int,int)",
        "int seen(int,int,boolean)", "int forget()", "int laws(int)", "int ask(int)", "int book(int,int,int)",
        "int image(int)", "int restore(int)", "int told(int)"};

    public static void main(String[] args) throws IOException {
        constants();
        members();
        classesInside();
        source();
        c.end();
    }

    private static void constants() {
        c.due("UNKNOWN", SaintsAhead.UNKNOWN, -1);
        c.due("OUTSIDE", SaintsAhead.OUTSIDE, -2);
        c.due("STATE", SaintsAhead.STATE, -3);
        c.due("FULL", SaintsAhead.FULL, -4);
        c.due("NO", SaintsAhead.NO, -5);
        c.due("NONE", SaintsAhead.NONE, -6);
        c.due("GONE", SaintsAhead.GONE, -1000000000000000000L);
    }

    private static void same(String what, Object got, Object want) {
        c.due(what + ": " + got + " for " + want, got.equals(want) ? 1 : 0, 1);
    }

    private static void members() {
        Class<?> k = SaintsAhead.class;
        same("modifiers", k.getModifiers(), Modifier.PUBLIC | Modifier.FINAL);
        same("constructors", k.getDeclaredConstructors().length, 1);
        same("constructor", k.getDeclaredConstructors()[0].toString(), "public SaintsAhead()");
        TreeSet<String> methods = new TreeSet<>();
        for (Method m : k.getDeclaredMethods()) {
            if (!Modifier.isPrivate(m.getModifiers())) {
                same("modifiers of " + m, m.getModifiers(), Modifier.PUBLIC);
                methods.add(m.getReturnType() + " " + m.getName() + Arrays.stream(m.getParameterTypes())
                        .map(Class::getName).collect(Collectors.joining(",", "(", ")")));
            }
        }
        same("methods", methods, new TreeSet<>(Arrays.asList(FACE)));
        TreeSet<String> fields = new TreeSet<>();
        for (Field f : k.getDeclaredFields()) {
            if (!Modifier.isPrivate(f.getModifiers())) {
                fields.add(f.toString().replace("SaintsAhead.", ""));
            }
        }
        TreeSet<String> wanted = new TreeSet<>();
        for (String name : new String[] {"UNKNOWN", "OUTSIDE", "STATE", "FULL", "NO", "NONE"}) {
            wanted.add("public static final int " + name);
        }
        wanted.add("public static final long GONE");
        same("fields", fields, wanted);
    }

    private static void classesInside() {
        Class<?>[] inside = SaintsAhead.class.getDeclaredClasses();
        c.due("classes inside, 12 at most", inside.length <= 12 ? 1 : 0, 1);
        for (Class<?> k : inside) {
            c.due(k + " is static", Modifier.isStatic(k.getModifiers()) ? 1 : 0, 1);
            c.due(k + " is not public", Modifier.isPublic(k.getModifiers()) ? 1 : 0, 0);
            for (Member m : k.getDeclaredMethods()) {
                boolean ofFace = Arrays.stream(FACE).anyMatch(f -> f.contains(" " + m.getName() + "("));
                c.due(m + " bears a name of the face", ofFace ? 1 : 0, 0);
            }
            for (Field f : k.getDeclaredFields()) {
                boolean changing = Modifier.isStatic(f.getModifiers()) && !Modifier.isFinal(f.getModifiers());
                c.due(f + " is static and not final", changing ? 1 : 0, 0);
            }
        }
    }

    private static void source() throws IOException {
        String text = Files.readString(Path.of("src/main/java/SaintsAhead.java"));
        String code = text.replaceAll("(?s)/\\*.*?\\*/", "").replaceAll("//[^\n]*", "");
        String[] ruledOut = {"\\bthrow\\b", "\\btry\\b", "\\bcatch\\b", "\\bsynchronized\\b", "\\bassert\\b", "->", "::",
            "\\bimport\\b", "\\bpackage\\b", "Exact\\b", "\\bwhile\\s*\\(true\\)", "\\bfor\\s*\\(;"};
        for (String rule : ruledOut) {
            Matcher m = Pattern.compile(rule).matcher(code);
            c.due("the source has " + rule, m.find() ? 1 : 0, 0);
        }
        c.due("signs above 126 in the source", text.chars().filter(s -> s > 126).count(), 0);
    }
}
