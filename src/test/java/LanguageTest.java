import java.io.IOException;
import java.lang.reflect.Constructor;
import java.lang.reflect.Field;
import java.lang.reflect.Method;
import java.lang.reflect.Modifier;
import java.nio.file.Files;
import java.nio.file.Path;
import java.util.ArrayList;
import java.util.Arrays;
import java.util.List;
import java.util.Set;
import java.util.TreeSet;
import java.util.regex.Matcher;
import java.util.regex.Pattern;

/** What can be seen of ../shared/LANGUAGE.md: from the source, and from the class that was compiled. */
public final class LanguageTest {
    private static final Due due = new Due();

    private static final String[] FACE = {
        "boolean place(int,int,int)", "boolean constable(int,int)", "int feed(int,int,int,int,int)", "int law(int)", "int beat(int,int)",
        "int pleas(int)", "int hours(int)", "int tried(int,int)", "int placeIs(int,int)", "int constableIs(int,int)", "int alone(int,int)",
        "int together(int,int,int)", "int seen(int)", "int quiet(int)", "int ways(int,int)", "int worst()", "int posts(int)",
        "int round(int,int,int)", "int lanes(int)", "int watches(int)", "int way(int,int,int)", "int nearest(int,int)",
        "int alibis(int,int,int)", "int bench(int,int,int)", "int likely(int,int)", "int share(int,int)", "int odds(int,int)",
        "boolean seed(int)", "int keep()", "boolean undo()", "int check(int)", "int count(int)"};

    private static final String[] FORBIDDEN = {"throw", "throws", "try", "catch", "finally", "synchronized", "assert", "import", "package",
        "double", "float", "volatile", "native", "transient", "var", "yield", "Object", "equals", "hashCode", "toString", "System", "Thread",
        "Random", "Exception", "Error", "extends", "implements", "protected", "MAX_VALUE", "MIN_VALUE"};

    public static void main(String[] args) throws IOException {
        String source = Files.readString(Path.of("src/main/java/IdleCrimes.java"));
        String bare = withoutTextsAndComments(source);
        words(bare);
        methodLengths(bare);
        asciiAlone(source);
        face();
        insides();
        rowsAreMadeOnce();
        due.tell();
    }

    private static String withoutTextsAndComments(String source) {
        String bare = source.replaceAll("(?s)/\\*.*?\\*/", " ").replaceAll("//[^\n]*", " ");
        return bare.replaceAll("'(\\\\.|[^'\\\\])'", "0").replaceAll("\"(\\\\.|[^\"\\\\])*\"", "0");
    }

    private static void words(String bare) {
        due.promise("rules 3 to 6, 13");
        for (String word : FORBIDDEN) {
            due.is("the word " + word, Pattern.compile("\\b" + word + "\\b").matcher(bare).find(), false);
        }
        due.is("lambdas", bare.contains("->"), false);
        due.is("method references", bare.contains("::"), false);
        due.is("annotations", bare.contains("@"), false);
        due.is("rows of rows", bare.contains("[][]"), false);
        Set<String> library = new TreeSet<>();
        Matcher calls = Pattern.compile("\\b(Math|Integer|Long|Arrays|String|StringBuilder|List|ArrayList)\\.?(\\w*)").matcher(bare);
        while (calls.find()) {
            library.add(calls.group());
        }
        library.removeAll(List.of("Math.min", "Math.max", "Math.floorMod", "Integer.bitCount"));
        due.is("other library calls " + library, library.size(), 0);
        due.is("classes inside", Pattern.compile("\\bclass \\w+").matcher(bare).results().count() <= 12, true);
    }

    private static void methodLengths(String bare) {
        due.promise("rule 11");
        String[] lines = bare.split("\n", -1);
        for (int i = 0; i < lines.length; i++) {
            if (lines[i].matches(" +(public|private|static|int|boolean|void).*\\) \\{ *")) {
                int end = i;
                String indent = lines[i].replaceAll("\\S.*", "");
                while (!lines[end].equals(indent + "}")) {
                    end++;
                }
                due.is("sixty lines at most:" + lines[i], end - i < 60, true);
                due.is("seven parameters at most:" + lines[i], lines[i].split(",").length <= 7, true);
            }
        }
    }

    private static void asciiAlone(String source) {
        due.promise("rule 4");
        due.is("other signs", source.chars().filter(sign -> sign != '\n' && (sign < 32 || sign > 126)).count(), 0);
    }

    private static String signature(Method method) {
        List<String> kinds = new ArrayList<>();
        for (Class<?> kind : method.getParameterTypes()) {
            kinds.add(kind.getSimpleName());
        }
        return method.getReturnType().getSimpleName() + " " + method.getName() + "(" + String.join(",", kinds) + ")";
    }

    private static void face() {
        due.promise("rule 1");
        Set<String> wanted = new TreeSet<>(Arrays.asList(FACE));
        due.is("public and final", IdleCrimes.class.getModifiers(), Modifier.PUBLIC | Modifier.FINAL);
        for (Method method : IdleCrimes.class.getDeclaredMethods()) {
            if (!Modifier.isPrivate(method.getModifiers())) {
                due.is(signature(method), wanted.remove(signature(method)), true);
                due.is(signature(method) + " is public", method.getModifiers(), Modifier.PUBLIC);
            }
        }
        due.is("missing " + wanted, wanted.size(), 0);
        Constructor<?>[] constructors = IdleCrimes.class.getDeclaredConstructors();
        due.is("one constructor", constructors.length, 1);
        due.is("it is public", constructors[0].getModifiers(), Modifier.PUBLIC);
        for (Field field : IdleCrimes.class.getDeclaredFields()) {
            due.is(field.getName() + " is private", Modifier.isPrivate(field.getModifiers()), !field.getName().equals("NONE"));
        }
    }

    private static void insides() {
        due.promise("rules 1, 2, 5, 11");
        Set<String> names = new TreeSet<>();
        for (String one : FACE) {
            names.add(one.replaceAll(".* |\\(.*", ""));
        }
        List<Class<?>> all = new ArrayList<>(List.of(IdleCrimes.class));
        all.addAll(List.of(IdleCrimes.class.getDeclaredClasses()));
        for (Class<?> one : all) {
            boolean isInside = one != IdleCrimes.class;
            due.is(one + " is static", Modifier.isStatic(one.getModifiers()), isInside);
            due.is(one + " is public", Modifier.isPublic(one.getModifiers()), !isInside);
            due.is(one + " holds no others", isInside ? one.getDeclaredClasses().length : 0, 0);
            int fields = 0;
            for (Field field : one.getDeclaredFields()) {
                boolean isStatic = Modifier.isStatic(field.getModifiers());
                due.is(field + " is final", !isStatic || Modifier.isFinal(field.getModifiers()), true);
                fields += isStatic ? 0 : 1;
            }
            due.is(one + " has twenty fields at most", fields <= 20, true);
            for (Method method : one.getDeclaredMethods()) {
                due.is(method + " has a name of its own", names.contains(method.getName()),
                    Modifier.isPublic(method.getModifiers()) && !isInside);
            }
        }
    }

    /** What an object holds after every kind of call, in objects and in fields and elements. */
    private static long[] held(Object root) {
        long objects = 0;
        long elements = 0;
        List<Object> found = new ArrayList<>(List.of(root));
        for (int i = 0; i < found.size(); i++) {
            Object one = found.get(i);
            objects++;
            if (one instanceof int[]) {
                elements += ((int[]) one).length;
                continue;
            }
            List<Object> inside = new ArrayList<>();
            if (one instanceof Object[]) {
                elements += ((Object[]) one).length;
                inside.addAll(Arrays.asList((Object[]) one));
            }
            for (Field field : one.getClass().isArray() ? new Field[0] : one.getClass().getDeclaredFields()) {
                if (!Modifier.isStatic(field.getModifiers())) {
                    elements++;
                    inside.add(field.getType().isPrimitive() ? null : valueOf(field, one));
                }
            }
            for (Object next : inside) {
                if (next != null && found.stream().noneMatch(known -> known == next)) {
                    found.add(next);
                }
            }
        }
        return new long[] {objects, elements};
    }

    private static Object valueOf(Field field, Object one) {
        try {
            field.setAccessible(true);
            return field.get(one);
        } catch (IllegalAccessException e) {
            throw new IllegalStateException(e);
        }
    }

    private static void rowsAreMadeOnce() {
        due.promise("rule 12");
        IdleCrimes x = new IdleCrimes();
        long[] atFirst = held(x);
        due.is("objects at first: " + atFirst[0], atFirst[0] < 100, true);
        due.is("elements at first: " + atFirst[1], atFirst[1] < 5000, true);
        x.place(0, 1, 1);
        x.round(0, 8, 0);
        long[] then = held(x);
        due.is("elements with a round: " + then[1], then[1] < 90000, true);
        for (int i = 0; i < 500; i++) {
            Due.law(x, "s(p=0);r1(p=1)");
            Due.beat(x, i % 8, "abc");
            Due.pleas(x, "a+1");
            x.round(0, 8, 1);
            x.watches(100);
            x.posts(0);
            x.tried(9, 0);
        }
        due.is("no more objects", held(x)[0], then[0]);
        due.is("no more elements", held(x)[1], then[1]);
    }
}
