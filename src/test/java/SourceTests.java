import java.io.IOException;
import java.lang.reflect.Constructor;
import java.lang.reflect.Field;
import java.lang.reflect.Method;
import java.lang.reflect.Modifier;
import java.nio.file.Files;
import java.nio.file.Path;
import java.util.ArrayList;
import java.util.Arrays;
import java.util.List;
import java.util.Set;
import java.util.TreeSet;
import java.util.regex.Matcher;
import java.util.regex.Pattern;

/** The rules of LANGUAGE.md that can be looked up in the class and in its source, below the folder that is given. */
public final class SourceTests {
    private static final String[] FACE = {"apart/1", "behind/3", "bit/4", "circuitOf/2", "clearText/0", "copy/1",
        "count/1", "dropGate/1", "fault/1", "gate/5", "kinds/1", "late/0", "output/2", "pairOf/2", "pairs/0",
        "read/1", "register/4", "run/4", "same/1", "share/2", "type/1", "undo/0"};
    private static final String[] CONSTANTS = {"INVALID_ARGUMENT", "LIMIT_REACHED", "NOT_FOUND", "NOT_POSSIBLE"};
    private static final String[] FORBIDDEN = {"\\bthrow", "\\btry\\b", "\\bcatch\\b", "\\bsynchronized\\b",
        "\\bassert\\b", "->", "::", "\\bnull\\b", "\\bfloat\\b", "\\bdouble\\b", "\\bSystem\\b", "\\bThread\\b",
        "\\bhashCode\\b", "\\bequals\\b", "\\btoString\\b", "@", "Exact\\b", "\\bpackage\\b"};

    private static int wrong = 0;

    private static void rule(boolean kept, String said) {
        if (!kept) {
            wrong++;
            System.out.println(said);
        }
    }

    public static void main(String[] args) throws IOException {
        face();
        List<Class<?>> classes = new ArrayList<>(List.of(TickCircuits.class.getDeclaredClasses()));
        classes.add(TickCircuits.class);
        rule(classes.size() <= 12, "too many classes: " + classes.size());
        for (Class<?> each : classes) {
            insides(each);
        }
        List<String> lines = Files.readAllLines(Path.of(args[0], "src/main/java/TickCircuits.java"));
        words(lines);
        arrays(lines);
        lengths(lines);
        System.out.println("source and class looked through, " + wrong + " rules broken");
        if (wrong != 0) {
            System.exit(1);
        }
    }

    private static void face() {
        Set<String> methods = new TreeSet<>();
        for (Method method : TickCircuits.class.getDeclaredMethods()) {
            if (!Modifier.isPrivate(method.getModifiers())) {
                boolean ofInts = method.getReturnType() == int.class && Modifier.isPublic(method.getModifiers())
                    && !Modifier.isStatic(method.getModifiers());
                for (Class<?> type : method.getParameterTypes()) {
                    ofInts = ofInts && type == int.class;
                }
                rule(ofInts, "not of the face: " + method);
                methods.add(method.getName() + "/" + method.getParameterCount());
            }
        }
        rule(methods.equals(new TreeSet<>(List.of(FACE))), "the face is " + methods);
        Set<String> constants = new TreeSet<>();
        for (Field field : TickCircuits.class.getDeclaredFields()) {
            if (!Modifier.isPrivate(field.getModifiers())) {
                constants.add(field.getName());
                rule(Modifier.isPublic(field.getModifiers()), "not of the face: " + field);
            }
        }
        rule(constants.equals(new TreeSet<>(List.of(CONSTANTS))), "the constants are " + constants);
        Constructor<?>[] constructors = TickCircuits.class.getDeclaredConstructors();
        rule(constructors.length == 1 && Modifier.isPublic(constructors[0].getModifiers())
            && constructors[0].getParameterCount() == 0, "constructors " + Arrays.toString(constructors));
        rule(Modifier.isFinal(TickCircuits.class.getModifiers()), "the class is not final");
    }

    private static void insides(Class<?> each) {
        Set<String> names = new TreeSet<>();
        for (String name : FACE) {
            names.add(name.substring(0, name.indexOf('/')));
        }
        boolean isOuter = each == TickCircuits.class;
        rule(isOuter || Modifier.isStatic(each.getModifiers()), "not static: " + each);
        for (Method method : each.getDeclaredMethods()) {
            rule(isOuter && Modifier.isPublic(method.getModifiers()) || !names.contains(method.getName()),
                "a name of the face: " + method);
            rule(method.getParameterCount() <= 7, "too many parameters: " + method);
        }
        int fields = 0;
        for (Field field : each.getDeclaredFields()) {
            boolean isStatic = Modifier.isStatic(field.getModifiers());
            fields += isStatic ? 0 : 1;
            rule(!isStatic || Modifier.isFinal(field.getModifiers()), "static and not final: " + field);
        }
        rule(fields <= 20, "too many fields: " + each);
    }

    private static void words(List<String> lines) {
        for (int i = 0; i < lines.size(); i++) {
            String line = lines.get(i);
            rule(line.chars().allMatch(c -> c < 128), "a sign beyond 127 in line " + (i + 1));
            rule(!line.startsWith("import") || line.equals("import java.util.Arrays;"), "import in line " + (i + 1));
            String code = line.replaceAll("//.*|^\\s*/?\\*.*", "");
            for (String word : FORBIDDEN) {
                rule(!Pattern.compile(word).matcher(code).find(), word + " in line " + (i + 1));
            }
        }
    }

    /** Arrays are made and looked into by the class Row alone, which tests every place. */
    private static void arrays(List<String> lines) {
        int brackets = 0;
        for (String line : lines) {
            Matcher bracket = Pattern.compile("\\[").matcher(line);
            while (bracket.find()) {
                brackets++;
            }
        }
        rule(brackets == 4, "arrays are used outside Row: " + brackets + " brackets");
    }

    private static void lengths(List<String> lines) {
        Pattern head = Pattern.compile("^( {4}| {8})\\w[^;=]*\\{$");
        for (int i = 0; i < lines.size(); i++) {
            if (head.matcher(lines.get(i)).matches() && !lines.get(i).contains(" class ")) {
                String end = lines.get(i).replaceAll("\\S.*", "") + "}";
                int last = i;
                while (last < lines.size() && !lines.get(last).equals(end)) {
                    last++;
                }
                rule(last - i < 60, "a long method from line " + (i + 1));
            }
        }
    }
}
