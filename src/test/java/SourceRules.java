import java.io.IOException;
import java.lang.reflect.Constructor;
import java.lang.reflect.Field;
import java.lang.reflect.Method;
import java.lang.reflect.Modifier;
import java.nio.file.Files;
import java.nio.file.Path;
import java.util.Arrays;
import java.util.List;
import java.util.Set;
import java.util.TreeSet;
import java.util.regex.Matcher;
import java.util.regex.Pattern;

/** The face, and those rules of LANGUAGE.md that can be seen from outside; run at the project's root. */
public final class SourceRules {
    private static final List<String> FACE = List.of(
        "int about(int)", "int again(int)", "int chance(int,int,boolean)", "int cut(int,int)",
        "int drawn(int)", "int fault()", "int follows(int)", "int judge(int,long)", "int keep(int)",
        "int learn()", "int leave()", "int make(int,int,int)", "int mark(int,int)",
        "int number(int,int)", "int rule(int,int)", "int run(int)", "int see(int,int,int,int)",
        "int share(int,boolean)", "int task()", "int undo()", "int unsee()", "int which()",
        "int wipe()", "int write(int)", "long seed(long)");
    private static final List<String> FORBIDDEN = List.of(
        "\\bimport\\b", "\\bpackage\\b", "\\bthrow\\b", "\\btry\\b", "\\bcatch\\b", "\\bsynchronized\\b",
        "\\bassert\\b", "->", "::", "\\bstatic\\s*\\{", "\\bdouble\\b", "\\bfloat\\b", "Exact\\(",
        "\\bprotected\\b", "@");
    /** Of what LANGUAGE.md lists of the library, all that the class has use for. */
    private static final Set<String> LIBRARY = Set.of(
        "Math.max", "Math.min", "Math.floorDiv", "Integer.bitCount", "System.arraycopy");
    private static final Set<Class<?>> OF_CONSTANTS = Set.of(int.class, long.class, boolean.class, char.class,
        String.class, int[].class, long[].class, char[].class, byte[].class);
    private static int wrong = 0;

    private static void holds(boolean so, String rule) {
        if (!so) {
            wrong++;
            System.out.println("not kept: " + rule);
        }
    }

    public static void main(String[] args) throws IOException {
        face();
        classesInside();
        String source = Files.readString(Path.of("src/main/java/CutTrail.java"));
        String code = source.replaceAll("(?s)/\\*.*?\\*/", "").replaceAll("//[^\n]*", "");
        words(source, code);
        library(code);
        System.out.println(wrong == 0 ? "all rules are kept" : wrong + " rules are not kept");
        if (wrong != 0) {
            System.exit(1);
        }
    }

    private static String told(Method method) {
        String types = String.join(",", Arrays.stream(method.getParameterTypes()).map(Class::getName).toList());
        return method.getReturnType().getName() + " " + method.getName() + "(" + types + ")";
    }

    private static void face() {
        Class<CutTrail> face = CutTrail.class;
        holds(Modifier.isPublic(face.getModifiers()) && Modifier.isFinal(face.getModifiers()), "public, final");
        Set<String> methods = new TreeSet<>();
        for (Method method : face.getDeclaredMethods()) {
            if (!Modifier.isPrivate(method.getModifiers()) && !method.isSynthetic()) {
                methods.add(told(method));
                holds(Modifier.isPublic(method.getModifiers()), told(method) + " is public");
            }
        }
        holds(methods.equals(new TreeSet<>(FACE)), "the methods of the face: " + methods);
        Constructor<?>[] constructors = face.getDeclaredConstructors();
        holds(constructors.length == 1 && Modifier.isPublic(constructors[0].getModifiers())
            && constructors[0].getParameterCount() == 0, "one public constructor");
        Set<String> constants = new TreeSet<>();
        for (Field field : face.getDeclaredFields()) {
            int is = field.getModifiers();
            holds(!Modifier.isStatic(is) || Modifier.isFinal(is), field.getName() + " is final");
            if (!Modifier.isPrivate(is)) {
                constants.add(field.getName());
                holds(Modifier.isPublic(is) && Modifier.isStatic(is) && Modifier.isFinal(is)
                    && field.getType() == int.class, field.getName() + " is a constant");
            }
        }
        holds(constants.equals(Set.of("UNKNOWN", "BAD", "LATE", "FULL", "NONE")), "the constants: " + constants);
    }

    private static void classesInside() {
        Set<String> shown = new TreeSet<>();
        for (String method : FACE) {
            shown.add(method.substring(method.indexOf(' ') + 1, method.indexOf('(')));
        }
        Class<?>[] inside = CutTrail.class.getDeclaredClasses();
        holds(inside.length + 1 <= 12, "at most some twelve classes");
        fields(CutTrail.class);
        for (Class<?> kind : inside) {
            holds(Modifier.isStatic(kind.getModifiers()), kind + " is static");
            fields(kind);
            for (Method method : kind.getDeclaredMethods()) {
                holds(!shown.contains(method.getName()), method + " has a name of its own");
                holds(method.getParameterCount() <= 7, method + " has few parameters");
            }
        }
        for (Method method : CutTrail.class.getDeclaredMethods()) {
            holds(!Modifier.isPrivate(method.getModifiers()) || !shown.contains(method.getName()),
                method + " has a name of its own");
        }
    }

    private static void fields(Class<?> kind) {
        int own = 0;
        for (Field field : kind.getDeclaredFields()) {
            if (Modifier.isStatic(field.getModifiers())) {
                holds(Modifier.isFinal(field.getModifiers()) && OF_CONSTANTS.contains(field.getType()),
                    field + " is a constant");
            } else {
                own++;
            }
        }
        holds(own <= 20, kind + " has few fields");
    }

    private static void library(String code) {
        Matcher call = Pattern.compile("\\b([A-Z]\\w*[a-z]\\w*\\.\\w+)").matcher(code);
        while (call.find()) {
            holds(LIBRARY.contains(call.group(1)), "of the library no " + call.group(1));
        }
        Set<String> made = new TreeSet<>(Set.of("int", "boolean"));
        for (Class<?> inside : CutTrail.class.getDeclaredClasses()) {
            made.add(inside.getSimpleName());
        }
        Matcher maker = Pattern.compile("\\bnew\\s+(\\w+)").matcher(code);
        while (maker.find()) {
            holds(made.contains(maker.group(1)), "makes no " + maker.group(1));
        }
    }

    private static void words(String source, String code) {
        for (String word : FORBIDDEN) {
            Matcher matcher = Pattern.compile(word).matcher(code);
            holds(!matcher.find(), "without " + word);
        }
        holds(source.chars().allMatch(sign -> sign == '\n' || sign >= 32 && sign < 127), "plain signs alone");
        // A method of the class or of one inside it ends at its own depth.
        Matcher method = Pattern.compile("(?m)^( {4}| {8})(?! )[^\n;=]*\\) \\{\n(?:.*\n)*?\\1\\}\n").matcher(code);
        int methods = 0;
        while (method.find()) {
            methods++;
            holds(method.group().lines().count() <= 60, "short: " + method.group().lines().findFirst().orElse(""));
        }
        holds(methods > 60, "the methods are found: " + methods);
    }
}
