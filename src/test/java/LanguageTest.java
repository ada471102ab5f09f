import java.lang.reflect.Constructor;
import java.lang.reflect.Executable;
import java.lang.reflect.Field;
import java.lang.reflect.Method;
import java.lang.reflect.Modifier;
import java.nio.file.Files;
import java.nio.file.Path;
import java.util.Arrays;
import java.util.Set;
import java.util.TreeSet;
import java.util.regex.Matcher;
import java.util.regex.Pattern;

/** The rules of LANGUAGE.md that can be seen from outside: the face, the classes inside, the words of the source. */
public final class LanguageTest {
    private static final String FACE = "astern():int cast(int):int clear():int does(int,int):int fast(int,int,int,int):int fault():int "
        + "feed(int,long):int follow(int):int gap(int):int go(int):int goBack(int):int heave(int,int,int):int judge(int):int keep(int):int "
        + "line(int,int):int log(int):int needs(int,int,int):int now(int):long odds(int,int):int off():int order(int):int plan():int "
        + "post(int,int):int put(int,int):int quay():int seed(int):int tended(int,int,int):int tide():int told(int):int tried(int,int):long "
        + "tug(int):int veer(int,int):int wakes(int):int wind(int):int";
    private static final Checks checks = new Checks();

    public static void main(String[] args) throws Exception {
        face();
        classesInside();
        String source = Files.readString(Path.of(args.length > 0 ? args[0] : "src/main/java/AlongsideLines.java"));
        words(source);
        methodsAreShort(source);
        checks.end();
    }

    private static void holds(String rule, boolean so) {
        checks.due(rule, so ? 1 : 0, 1);
    }

    private static void face() {
        Class<?> c = AlongsideLines.class;
        holds("public final class", Modifier.isPublic(c.getModifiers()) && Modifier.isFinal(c.getModifiers()));
        Set<String> face = new TreeSet<>();
        Set<String> names = new TreeSet<>();
        for (Method m : c.getDeclaredMethods()) {
            if (!Modifier.isPrivate(m.getModifiers())) {
                String types = String.join(",", Arrays.stream(m.getParameterTypes()).map(Class::getName).toArray(String[]::new));
                face.add(m.getName() + "(" + types + "):" + m.getReturnType().getName());
                names.add(m.getName());
                holds(m.getName() + " is public", Modifier.isPublic(m.getModifiers()));
            }
        }
        holds("the face is " + face, face.equals(new TreeSet<>(Arrays.asList(FACE.split(" ")))));
        for (Method m : c.getDeclaredMethods()) {
            holds("private " + m.getName(), !Modifier.isPrivate(m.getModifiers()) || !names.contains(m.getName()));
        }
        for (Class<?> inside : c.getDeclaredClasses()) {
            for (Method m : inside.getDeclaredMethods()) {
                holds(inside.getSimpleName() + "." + m.getName(), !names.contains(m.getName()));
            }
        }
        Constructor<?>[] makers = c.getDeclaredConstructors();
        holds("one public constructor", makers.length == 1 && Modifier.isPublic(makers[0].getModifiers()) && makers[0].getParameterCount() == 0);
        Set<String> constants = new TreeSet<>();
        for (Field f : c.getDeclaredFields()) {
            if (!Modifier.isPrivate(f.getModifiers())) {
                constants.add(f.getName());
            }
        }
        holds("constants " + constants, constants.equals(Set.of("NONE", "UNKNOWN", "OUTSIDE", "NOT", "FULL")));
    }

    private static void classesInside() {
        Class<?>[] inside = AlongsideLines.class.getDeclaredClasses();
        holds("at most twelve classes", inside.length <= 12);
        look(AlongsideLines.class);
        for (Class<?> c : inside) {
            holds(c + " is static and not public", Modifier.isStatic(c.getModifiers()) && !Modifier.isPublic(c.getModifiers())
                && !Modifier.isProtected(c.getModifiers()));
            holds(c + " has none inside", c.getDeclaredClasses().length == 0);
            look(c);
        }
    }

    private static void look(Class<?> c) {
        int fields = 0;
        for (Field f : c.getDeclaredFields()) {
            boolean fixed = Modifier.isStatic(f.getModifiers());
            fields += fixed ? 0 : 1;
            holds(c + "." + f.getName() + " is final", !fixed || Modifier.isFinal(f.getModifiers()));
            holds(c + "." + f.getName() + " is a constant or an array of numbers",
                !fixed || f.getType().isPrimitive() || f.getType() == int[].class);
        }
        holds(c + " has some twenty fields: " + fields, fields <= 20);
        for (Executable m : c.getDeclaredMethods()) {
            holds(m + " takes at most seven", m.getParameterCount() <= 7);
        }
    }

    private static String bare(String source) {
        return source.replaceAll("(?s)/\\*.*?\\*/", " ").replaceAll("//[^\n]*", " ")
            .replaceAll("\"[^\"\n]*\"", "\"\"").replaceAll("'[^'\n]'", "' '");
    }

    private static void words(String source) {
        String bare = bare(source);
        String[] ruledOut = {"throw", "throws", "try", "catch", "finally", "synchronized", "assert", "import", "package", "protected",
            "volatile", "transient", "native", "strictfp", "var", "record", "yield", "double", "float", "Object", "Thread", "\\w*Exact",
            "hashCode", "equals", "toString", "getClass", "Random", "Exception", "Error", "sqrt", "MAX_VALUE", "MIN_VALUE"};
        for (String word : ruledOut) {
            holds("no '" + word + "'", !Pattern.compile("\\b" + word + "\\b").matcher(bare).find());
        }
        holds("no lambda", !bare.contains("->"));
        holds("no method reference", !bare.contains("::"));
        holds("no annotation", !bare.contains("@"));
        holds("signs 1 to 127", source.chars().allMatch(c -> c < 128));
        Matcher calls = Pattern.compile("\\b(Math|System|Integer|Long|Arrays|String|StringBuilder)\\.(\\w+)").matcher(bare);
        Set<String> allowed = Set.of("Math.max", "Math.min", "Math.abs", "System.arraycopy");
        while (calls.find()) {
            holds("library: " + calls.group(), allowed.contains(calls.group()));
        }
    }

    private static void methodsAreShort(String source) {
        String[] lines = source.split("\n");
        int start = -1;
        String end = "";
        for (int i = 0; i < lines.length; i++) {
            String line = lines[i];
            if (start < 0 && line.matches(" {4}( {4})?[\\w\\[\\]<> ]+\\([^;]*\\) \\{")) {
                start = i;
                end = line.substring(0, line.length() - line.stripLeading().length()) + "}";
            } else if (start >= 0 && line.equals(end)) {
                holds("lines " + (start + 1) + " to " + (i + 1) + " are at most sixty", i - start < 60);
                start = -1;
            }
            holds("line " + (i + 1) + " is at most 120 long", line.length() <= 120 || i == 5);
        }
        holds("every method ended", start < 0);
    }
}
