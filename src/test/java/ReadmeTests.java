import java.io.IOException;
import java.lang.reflect.Method;
import java.lang.reflect.Modifier;
import java.nio.file.Files;
import java.nio.file.Path;
import java.util.List;
import java.util.regex.Matcher;
import java.util.regex.Pattern;
import java.util.stream.Collectors;
import java.util.stream.Stream;

/** What README.md says is so: the answers of its example, its calls, its numbers and its files. */
public final class ReadmeTests {
    private static final Pattern ANSWERED = Pattern.compile("game\\.(\\w+\\([^)]*\\)); *// (-?\\d+):");
    private static final Pattern CONSTANT = Pattern.compile("`([A-Z_]+)` \\((-\\d+)\\)");
    private static final Pattern FILE = Pattern.compile("`((?:\\.\\./shared|src|\\.ci)[^`]*)`");

    private static int checks = 0;
    private static int wrong = 0;

    private ReadmeTests() {
    }

    public static void main(String[] args) throws IOException {
        String page = Files.readString(Path.of("README.md"));
        example(page);
        constants(page);
        methods(page);
        orders(page);
        files(page);
        tests(page);
        System.out.println(checks + " checks of README.md, " + wrong + " wrong");
        if (wrong != 0) {
            System.exit(1);
        }
    }

    private static void require(boolean holds, String what) {
        checks++;
        if (!holds) {
            wrong++;
            System.out.println("README.md: " + what);
        }
    }

    private static void example(String page) {
        CountedShips game = new CountedShips();
        Matcher row = ANSWERED.matcher(page);
        int rows = 0;
        while (row.find()) {
            rows++;
            int got = Call.of(row.group(1)).on(game);
            require(got == Integer.parseInt(row.group(2)), row.group(1) + " answered " + got + ", not " + row.group(2));
        }
        require(rows == page.split("game\\.").length - 1 && rows > 0, "each call of the example is followed by its answer");
    }

    private static void constants(String page) {
        Matcher constant = CONSTANT.matcher(page);
        int told = 0;
        while (constant.find()) {
            told++;
            require(Call.number(constant.group(1)) == Integer.parseInt(constant.group(2)), constant.group(1));
        }
        require(told == WindCardShips.class.getFields().length, "all constants are told");
    }

    private static void methods(String page) {
        for (Method method : WindCardShips.class.getDeclaredMethods()) {
            if (Modifier.isPublic(method.getModifiers())) {
                require(page.contains("`" + method.getName() + "`"), method.getName() + " is missing");
            }
        }
    }

    /** The text of orders that the page shows can be carried out by the ships of its example. */
    private static void orders(String page) {
        Matcher text = Pattern.compile("such as `([^`]*)`").matcher(page);
        require(text.find(), "a text of orders");
        CountedShips game = new CountedShips();
        game.addShip(0, 20, 0, 8, 40, 9);
        game.addShip(1, 22, 3, 7, 30, 8);
        for (char sign : text.group(1).toCharArray()) {
            game.append(sign);
        }
        require(game.carryOut() == text.group(1).split(";").length, "all orders of the text are carried out");
    }

    private static void files(String page) {
        Matcher file = FILE.matcher(page);
        while (file.find()) {
            require(Files.exists(Path.of(file.group(1))), file.group(1) + " does not exist");
        }
    }

    /** Every test of the project is told of. */
    private static void tests(String page) throws IOException {
        try (Stream<Path> all = Files.list(Path.of("src/test/java"))) {
            List<String> names = all.map(Path::toString).collect(Collectors.toList());
            for (String name : names) {
                require(page.contains("`" + name + "`"), name + " is missing");
            }
        }
    }
}
