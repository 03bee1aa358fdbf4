import java.lang.reflect.Constructor;
import java.lang.reflect.Field;
import java.lang.reflect.Method;
import java.lang.reflect.Modifier;
import java.nio.file.Files;
import java.nio.file.Path;
import java.util.Arrays;
import java.util.Set;
import java.util.TreeSet;
import java.util.regex.Matcher;
import java.util.regex.Pattern;

/** The document's face, and those rules of LANGUAGE.md that can be read off the class and its text. */
public final class FaceTest {
    private static final Checks CHECKS = new Checks("FaceTest");
    private static final String FACE = "int type/1,int wipe/0,int undo/0,int fault/0,int road/2,int land/3,int bell/3,"
        + "int read/1,int feast/1,int back/0,int lent/1,int war/2,int strikes/4,int next/3,int left/2,int best/1,"
        + "int unlike/2,int way/3,int raid/4,int set/2,int siege/4,int holds/3,int home/4,int agree/1,int middle/1,"
        + "int seen/3,int forget/0,int which/0,int season/2,int sheet/3,int lose/1,int lay/4,int get/3,int copy/5,"
        + "int write/3,int count/1,long digest/0";
    private static final String SOURCE = "src/main/java/BishopsPeace.java";
    private static final String[] FORBIDDEN = {"throw", "try", "catch", "synchronized", "assert", "protected", "package",
        "hashCode", "toString", "Integer", "Long", "System\\s*\\.\\s*(?!arraycopy)", "->", "::", "\\w+Exact"};

    private static void members() {
        Class<?> c = BishopsPeace.class;
        CHECKS.holds("public and final", Modifier.isPublic(c.getModifiers()) && Modifier.isFinal(c.getModifiers()));
        Set<String> names = new TreeSet<>();
        Set<String> hidden = new TreeSet<>();
        for (Method m : c.getDeclaredMethods()) {
            boolean ints = Arrays.stream(m.getParameterTypes()).allMatch(p -> p == int.class);
            if (Modifier.isPrivate(m.getModifiers())) {
                hidden.add(m.getName());
            } else {
                CHECKS.holds(m.getName() + " is public", Modifier.isPublic(m.getModifiers()) && ints);
                names.add(m.getReturnType() + " " + m.getName() + "/" + m.getParameterCount());
            }
        }
        CHECKS.holds("the methods are the document's", names.equals(new TreeSet<>(Arrays.asList(FACE.split(",")))));
        for (String name : hidden) {
            CHECKS.holds(name + " is no public method's name", !FACE.contains(" " + name + "/"));
        }
        Constructor<?>[] makers = c.getDeclaredConstructors();
        CHECKS.holds("one public constructor", makers.length == 1 && makers[0].getParameterCount() == 0
            && Modifier.isPublic(makers[0].getModifiers()));
    }

    private static void fields() {
        for (Field f : BishopsPeace.class.getDeclaredFields()) {
            boolean face = Set.of("NONE", "BAD", "NOT", "FULL").contains(f.getName());
            int m = f.getModifiers();
            CHECKS.holds(f.getName() + " is seen as told", face ? Modifier.isPublic(m) : Modifier.isPrivate(m));
            CHECKS.holds(f.getName() + " is no changing static", !Modifier.isStatic(m) || Modifier.isFinal(m));
        }
        CHECKS.due("NONE", BishopsPeace.NONE, -1);
        CHECKS.due("BAD", BishopsPeace.BAD, -2);
        CHECKS.due("NOT", BishopsPeace.NOT, -3);
        CHECKS.due("FULL", BishopsPeace.FULL, -4);
    }

    private static void classesInside() {
        Class<?>[] inside = BishopsPeace.class.getDeclaredClasses();
        CHECKS.holds("at most twelve classes", inside.length < 12);
        for (Class<?> c : inside) {
            CHECKS.holds(c + " is static", Modifier.isStatic(c.getModifiers()) && !Modifier.isPublic(c.getModifiers()));
            int own = 0;
            for (Field f : c.getDeclaredFields()) {
                own += Modifier.isStatic(f.getModifiers()) ? 0 : 1;
                CHECKS.holds(f + " is final or no static", Modifier.isFinal(f.getModifiers()) || !Modifier.isStatic(f.getModifiers()));
            }
            CHECKS.holds(c + " has at most twenty fields", own <= 20);
            for (Method m : c.getDeclaredMethods()) {
                CHECKS.holds(m + " takes at most seven", m.getParameterCount() <= 7);
                CHECKS.holds(m + " bears no public name", !FACE.contains(" " + m.getName() + "/"));
            }
        }
    }

    private static void text() throws Exception {
        String source = Files.readString(Path.of(SOURCE));
        String code = source.replaceAll("(?s)/\\*.*?\\*/", " ").replaceAll("//[^\n]*", " ");
        for (String word : FORBIDDEN) {
            String bounded = word.matches("\\w+") ? "\\b" + word + "\\b" : word;
            Matcher m = Pattern.compile(bounded).matcher(code);
            CHECKS.holds("no " + word, !m.find());
        }
        Matcher imports = Pattern.compile("import ([^;]*);").matcher(code);
        while (imports.find()) {
            CHECKS.holds("import of " + imports.group(1), imports.group(1).equals("java.util.Arrays"));
        }
        Matcher methods = Pattern.compile("(?m)^( {4}| {8})[a-zA-Z].*\\) \\{\n(?s)(.*?)^\\1\\}").matcher(code);
        int longest = 0;
        while (methods.find()) {
            longest = Math.max(longest, methods.group(2).split("\n").length);
        }
        CHECKS.holds("methods of at most sixty lines, not " + longest, longest > 5 && longest <= 60);
    }

    public static void main(String[] args) throws Exception {
        members();
        fields();
        classesInside();
        text();
        CHECKS.end();
    }
}
