import java.io.IOException;
import java.lang.reflect.Array;
import java.lang.reflect.Field;
import java.lang.reflect.Method;
import java.lang.reflect.Modifier;
import java.nio.file.Files;
import java.nio.file.Path;
import java.util.ArrayDeque;
import java.util.ArrayList;
import java.util.Collections;
import java.util.Deque;
import java.util.IdentityHashMap;
import java.util.List;
import java.util.Set;
import java.util.TreeSet;
import java.util.regex.Matcher;
import java.util.regex.Pattern;

/**
 * The rules of LANGUAGE.md that the file or its classes show; rule 1 is FaceTest's. What the rules
 * allow but the program has no need of (try, while and their like) is left out here too, since a
 * plain search cannot tell the allowed uses from the others.
 */
public final class LanguageTest {
    private static final Path FILE = Path.of("src/main/java/FlatStore.java");
    private static final Set<String> IMPORTS = Set.of("java.util.Arrays", "java.util.NoSuchElementException");
    private static final Set<String> LIBRARY = Set.of("Arrays.fill", "Math.max", "Math.min", "System.arraycopy");
    private static final Set<String> EXCEPTIONS = Set.of("IllegalStateException", "IllegalArgumentException",
        "IndexOutOfBoundsException", "UnsupportedOperationException", "NoSuchElementException");
    private static final String[] LEFT_OUT = {"package", "synchronized", "assert", "try", "catch", "finally",
        "while", "do", "double", "float", "Object", "var", "volatile", "native"};
    private static final int MOST_CLASSES = 12;
    private static final int MOST_FIELDS = 20;
    private static final int MOST_PARAMETERS = 7;
    private static final int MOST_LINES = 60;
    private static final Check check = new Check("LanguageTest");

    public static void main(String[] args) throws IOException {
        String code = withoutComments(Files.readString(FILE));
        words(code);
        library(code);
        exceptions(code);
        objectsMade(code);
        lengths(code);
        classes();
        room();
        check.end();
    }

    private static String withoutComments(String text) {
        return text.replaceAll("(?s)/\\*.*?\\*/", "").replaceAll("//[^\n]*", "");
    }

    private static List<String> found(String pattern, String code) {
        List<String> all = new ArrayList<>();
        Matcher matcher = Pattern.compile(pattern).matcher(code);
        while (matcher.find()) {
            all.add(matcher.group(1));
        }
        return all;
    }

    private static void none(String what, List<String> wrong) {
        check.compare(what, "[]", wrong.toString());
    }

    private static List<String> others(List<String> all, Set<String> allowed) {
        Set<String> rest = new TreeSet<>(all);
        rest.removeAll(allowed);
        return new ArrayList<>(rest);
    }

    /** Without while and do, each loop is a for with its counter in its own line. */
    private static void words(String code) {
        for (String word : LEFT_OUT) {
            none("rules 2 to 10: " + word, found("\\b(" + word + ")\\b", code));
        }
        none("rule 2: lambda or method reference", found("(->|::)", code));
        none("rule 5: static block", found("(static\\s*\\{)", code));
        none("rule 9: for without a bound", found("(for \\([^;)]*;\\s*;)", code));
    }

    private static void library(String code) {
        none("rule 4: imports", others(found("import ([\\w.*]+);", code), IMPORTS));
        none("rule 4: library", others(found("\\b([A-Z][a-z]\\w*\\.\\w+)\\(", code), LIBRARY));
    }

    private static void exceptions(String code) {
        none("rule 6: thrown", others(found("throw new (\\w+)\\(\\);", code), EXCEPTIONS));
        check.due("rule 6: all are new", found("\\b(throw)\\b", code).size(),
            () -> found("(throw new )\\w+\\(\\);", code).size());
    }

    /** What is not thrown is made with the object, so that no call can fill the room. */
    private static void objectsMade(String code) {
        List<String> wrong = new ArrayList<>();
        for (String line : code.split("\n")) {
            boolean once = line.trim().startsWith("private final ") || line.contains("throw new ");
            if (line.contains("new ") && !once) {
                wrong.add(line.trim());
            }
        }
        none("rule 12: made by a call", wrong);
    }

    private static void lengths(String code) {
        Deque<String> heads = new ArrayDeque<>();
        Deque<Integer> starts = new ArrayDeque<>();
        List<String> wrong = new ArrayList<>();
        StringBuilder head = new StringBuilder();
        int methods = 0;
        int line = 1;
        for (char c : code.toCharArray()) {
            line += c == '\n' ? 1 : 0;
            if (c == '{') {
                heads.push(head.toString().trim());
                starts.push(line);
            } else if (c == '}') {
                String ended = heads.pop();
                int lines = line - starts.pop();
                boolean inClass = !heads.isEmpty() && heads.peek().contains("class ");
                if (inClass && ended.contains("(")) {
                    methods++;
                    if (lines > MOST_LINES) {
                        wrong.add(ended);
                    }
                }
            }
            if (c == '{' || c == '}' || c == ';') {
                head.setLength(0);
            } else {
                head.append(c);
            }
        }
        none("rule 11: long methods", wrong);
        int seen = methods;
        check.due("methods seen", declared(), () -> seen);
    }

    /** The methods and constructors that are written out; a class without one has its own. */
    private static int declared() {
        int sum = 0;
        for (Class<?> each : all()) {
            sum += each.getDeclaredMethods().length;
            boolean needsParts = each.getDeclaredConstructors()[0].getParameterCount() > 0;
            sum += needsParts || each == FlatStore.class ? 1 : 0;
        }
        return sum;
    }

    private static List<Class<?>> all() {
        List<Class<?>> classes = new ArrayList<>(List.of(FlatStore.class.getDeclaredClasses()));
        classes.add(FlatStore.class);
        return classes;
    }

    private static void classes() {
        check.compare("rule 11: classes", "true", "" + (all().size() <= MOST_CLASSES));
        for (Class<?> each : all()) {
            int fields = 0;
            for (Field field : each.getDeclaredFields()) {
                int modifiers = field.getModifiers();
                if (!Modifier.isStatic(modifiers)) {
                    fields++;
                    continue;
                }
                check.compare("rule 5: " + field, "true", "" + (Modifier.isFinal(modifiers)
                    && (field.getType() == int.class || field.getType() == int[].class)));
            }
            check.compare("rule 11: fields of " + each, "true", "" + (fields <= MOST_FIELDS));
            for (Method method : each.getDeclaredMethods()) {
                check.compare("rule 11: parameters of " + method, "true",
                    "" + (method.getParameterCount() <= MOST_PARAMETERS));
            }
        }
    }

    private static void room() {
        Room made = new Room(new FlatStore());
        check.compare("a new object: " + made, "true", "" + (made.objects < 30 && made.elements < 2500));
        check.compare("after many calls", made.toString(), new Room(Sample.full()).toString());
        check.compare("after reading", made.toString(), new Room(Sample.verified()).toString());
    }

    /** Counts what an object holds, and what its parts do. */
    private static final class Room {
        private final Set<Object> seen = Collections.newSetFromMap(new IdentityHashMap<>());
        private int objects;
        private int elements;

        Room(Object whole) {
            visit(whole);
        }

        private void visit(Object part) {
            if (!seen.add(part)) {
                return;
            }
            objects++;
            if (part.getClass().isArray()) {
                elements += Array.getLength(part);
                check.compare(part.getClass() + " is of numbers", "true",
                    "" + part.getClass().getComponentType().isPrimitive());
                return;
            }
            for (Field field : part.getClass().getDeclaredFields()) {
                if (!Modifier.isStatic(field.getModifiers())) {
                    visitField(part, field);
                }
            }
        }

        private void visitField(Object part, Field field) {
            elements++;
            if (field.getType().isPrimitive()) {
                return;
            }
            try {
                field.setAccessible(true);
                visit(field.get(part));
            } catch (IllegalAccessException e) {
                throw new IllegalStateException(e);
            }
        }

        @Override
        public String toString() {
            return objects + " objects and arrays, " + elements + " fields and elements";
        }
    }
}
