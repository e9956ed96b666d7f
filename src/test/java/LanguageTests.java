import java.io.IOException;
import java.lang.reflect.Constructor;
import java.lang.reflect.Field;
import java.lang.reflect.Method;
import java.lang.reflect.Modifier;
import java.nio.file.Files;
import java.nio.file.Path;
import java.util.ArrayList;
import java.util.Arrays;
import java.util.List;
import java.util.Set;
import java.util.TreeSet;
import java.util.regex.Matcher;
import java.util.regex.Pattern;

/** The face of the class as the document has it, and the rules of LANGUAGE.md that a program can see. */
public final class LanguageTests {
    private static final String FACE = "setIsland(2) addShip(6) setTimber(2) tell(2) sail(2) fire(3) grapple(2) cut(1) "
        + "repair(2) end(0) take(1) restore(1) undo(0) append(1) clearText(0) carryOut(0) count(1) captain(2) ship(2) "
        + "on(1) targets(2) hits(3) way(3) reach(1) windBy(2) bestCard(3) threats(1) strength(1)";
    private static final String[] FORBIDDEN = {"throw", "throws", "try", "catch", "synchronized", "assert", "package",
        "volatile", "transient", "native", "protected", "Object", "System\\.(?!arraycopy)", "->", "::", "float", "double",
        "Random", "Thread", "nanoTime", "currentTimeMillis", "\\w+Exact", "hashCode", "toString"};

    private static int wrong = 0;

    private static void require(boolean holds, String what) {
        if (!holds) {
            wrong++;
            System.out.println("does not hold: " + what);
        }
    }

    public static void main(String[] args) throws IOException {
        face();
        classes();
        text(Files.readString(Path.of("src/main/java/WindCardShips.java")));
        System.out.println(wrong == 0 ? "the face and the rules hold" : wrong + " wrong");
        if (wrong != 0) {
            System.exit(1);
        }
    }

    private static void face() {
        Set<String> due = new TreeSet<>(Arrays.asList(FACE.split(" ")));
        Set<String> found = new TreeSet<>();
        Set<String> names = new TreeSet<>();
        for (Method method : WindCardShips.class.getDeclaredMethods()) {
            if (Modifier.isPublic(method.getModifiers())) {
                found.add(method.getName() + "(" + method.getParameterCount() + ")");
                names.add(method.getName());
                require(method.getReturnType() == int.class, method + " returns int");
                require(!Modifier.isStatic(method.getModifiers()), method + " is not static");
                for (Class<?> type : method.getParameterTypes()) {
                    require(type == int.class, method + " takes int");
                }
            } else {
                require(Modifier.isPrivate(method.getModifiers()), method + " is private");
            }
        }
        require(found.equals(due), "the methods " + found + " are " + due);
        for (Constructor<?> constructor : WindCardShips.class.getDeclaredConstructors()) {
            require(Modifier.isPublic(constructor.getModifiers()) && constructor.getParameterCount() == 0, "" + constructor);
        }
        int constants = 0;
        for (Field field : WindCardShips.class.getDeclaredFields()) {
            int is = field.getModifiers();
            constants += Modifier.isPublic(is) ? 1 : 0;
            require(Modifier.isPrivate(is) || Modifier.isPublic(is) && Modifier.isStatic(is) && Modifier.isFinal(is), "" + field);
        }
        require(constants == 4, "four constants");
        require(Modifier.isFinal(WindCardShips.class.getModifiers()), "the class is final");
        for (Class<?> inside : WindCardShips.class.getDeclaredClasses()) {
            for (Method method : inside.getDeclaredMethods()) {
                require(!names.contains(method.getName()), method + " bears no public name");
            }
        }
        for (Method method : WindCardShips.class.getDeclaredMethods()) {
            require(Modifier.isPublic(method.getModifiers()) || !names.contains(method.getName()), method + " bears no public name");
        }
    }

    private static void classes() {
        List<Class<?>> all = new ArrayList<>(Arrays.asList(WindCardShips.class.getDeclaredClasses()));
        require(all.size() < 12, "at most some twelve classes");
        for (Class<?> inside : all) {
            require(Modifier.isStatic(inside.getModifiers()), inside + " is static");
            require(!Modifier.isPublic(inside.getModifiers()), inside + " is not public");
            require(inside.getDeclaredClasses().length == 0, inside + " has no class inside");
        }
        all.add(WindCardShips.class);
        for (Class<?> one : all) {
            int fields = 0;
            for (Field field : one.getDeclaredFields()) {
                fields += Modifier.isStatic(field.getModifiers()) ? 0 : 1;
                require(!Modifier.isStatic(field.getModifiers()) || Modifier.isFinal(field.getModifiers())
                    && field.getType() == int.class, field + " is a constant if it is static");
            }
            require(fields <= 20, one + " has at most twenty fields");
            for (Method method : one.getDeclaredMethods()) {
                require(method.getParameterCount() <= 7, method + " has at most seven parameters");
            }
        }
    }

    private static void text(String whole) {
        String code = whole.replaceAll("(?s)/\\*.*?\\*/", "").replaceAll("//[^\n]*", "");
        for (String word : FORBIDDEN) {
            String pattern = Character.isLetter(word.charAt(0)) || word.charAt(0) == '\\' ? "\\b" + word : word;
            boolean bare = word.matches("[A-Za-z]+");
            Matcher matcher = Pattern.compile(bare ? pattern + "\\b" : pattern).matcher(code);
            require(!matcher.find(), "without " + word);
        }
        require(whole.chars().allMatch(c -> c == '\n' || c >= 32 && c < 127), "plain characters alone");
        Matcher imports = Pattern.compile("import ([^;]*);").matcher(code);
        while (imports.find()) {
            require(imports.group(1).equals("java.util.Arrays"), "import " + imports.group(1));
        }
        require(!code.contains("\""), "no texts");
        methodLengths(code);
        madeInConstructors(code);
    }

    private static void methodLengths(String code) {
        String[] lines = code.split("\n");
        int begun = -1;
        String indent = "";
        for (int i = 0; i < lines.length; i++) {
            Matcher head = Pattern.compile("^( {4,8})[^ ].*\\) \\{$").matcher(lines[i]);
            if (begun < 0 && head.matches()) {
                begun = i;
                indent = head.group(1);
            } else if (begun >= 0 && lines[i].equals(indent + "}")) {
                require(i - begun <= 60, "a short method: " + lines[begun].trim());
                begun = -1;
            }
        }
    }

    /** No call makes an object: what is made stands in the fields and in the constructors. */
    private static void madeInConstructors(String code) {
        for (String line : code.split("\n")) {
            boolean field = line.matches(" +(private )?(final )?[A-Za-z]+(\\[\\])? \\w+ = new .*;");
            boolean row = line.matches(" +(ships|rows)\\[i\\] = new (Ship\\(i\\)|State\\(\\));");
            require(!line.matches(".*\\bnew\\b.*") || field || row, "made once: " + line.trim());
        }
    }
}
