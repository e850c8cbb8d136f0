import java.io.ByteArrayOutputStream;
import java.io.IOException;
import java.io.PrintStream;
import java.lang.reflect.InvocationTargetException;
import java.lang.reflect.Method;
import java.lang.reflect.Modifier;
import java.nio.charset.StandardCharsets;
import java.nio.file.Files;
import java.nio.file.Path;
import java.util.ArrayList;
import java.util.Arrays;
import java.util.Collections;
import java.util.List;
import java.util.Map;
import java.util.Random;
import java.util.Set;
import java.util.TreeMap;
import java.util.TreeSet;
import java.util.regex.Matcher;
import java.util.regex.Pattern;

/** That README.md tells the truth: its example, its LINES, and which answers each call may give. */
public final class ReadmeTest {
    private static final String[] TEXTS = {
        "sea 4 2;peak 1 0;surfer a 1 0 5 2 100 50;surfer bo 2 0 9 1 100 60;surfer c 3 1 3 3 60 0;set 0 3 5 9;set 6 4 4;bank 2 1 9;law drift minute - 2;",
        "sea 4 2;peak 1 0;surfer a 1 0 5 2 0 50;surfer bo 2 0 9 1 0 60;set 0 9 9 9;bank 9 9 1;law catch far - 3;law away which - 3;",
        "surfer a 0 0 1 1 0 0;bank 1 1 1;"};
    private static final int[] NUMBERS = {-1, 0, 0, 0, 1, 1, 1, 2, 2, 3, 4, 5, 6, 7, 8, 12, 13, 24, 99, 200, 1000, Integer.MIN_VALUE};

    private static final Due due = new Due();
    private static String page;

    private static String read(String path) throws IOException {
        return Files.readString(Path.of(path));
    }

    private static String block(String kind) {
        Matcher found = Pattern.compile("```" + kind + "\n(.*?)```\n", Pattern.DOTALL).matcher(page);
        return found.find() ? found.group(1) : "";
    }

    /** The rows of a table, from a row that begins so on. */
    private static List<String[]> table(String firstRow) {
        List<String[]> rows = new ArrayList<>();
        boolean inside = false;
        for (String line : page.split("\n")) {
            inside = line.startsWith(firstRow) || inside && line.startsWith("|");
            if (inside && !line.startsWith(firstRow) && !line.startsWith("|---")) {
                rows.add(line.substring(1).split("\\|", -1));
            }
        }
        return rows;
    }

    private static String code(String cell) {
        return cell.replaceAll("`([^`]*)`.*", "$1").trim();
    }

    private static void example() throws IOException {
        due.in("the example");
        due.that("is Example.java", block("java").equals(read("src/test/java/Example.java")));
        PrintStream screen = System.out;
        ByteArrayOutputStream printed = new ByteArrayOutputStream();
        System.setOut(new PrintStream(printed, true));
        Example.main(new String[0]);
        System.setOut(screen);
        String got = printed.toString(StandardCharsets.UTF_8).replace("\r", "");
        due.that("prints what is told, not\n" + got, block("text").equals(got));
    }

    private static void lines() {
        due.in("LINES");
        List<String[]> rows = table("| LINE |");
        due.is("kinds of LINES", rows.size(), 8);
        StringBuilder all = new StringBuilder();
        for (String[] row : rows) {
            all.append(code(row[0])).append(';');
        }
        WhoseWave x = due.told(all.toString());
        due.is("SURFERS", x.count(2), 1);
        due.is("WAVES", x.count(4), 3);
        due.is("the rule", x.count(7), 1);
    }

    private static void faults() {
        due.in("FAULTS");
        List<String[]> rows = table("| `fault(0)` |");
        String[] texts = {"", "sea x", "sea 9 1;", "seed 1;seed 1;", "peak 0 0;sea 1 1;", "set 3 1;set 3 1;"};
        due.is("kinds of FAULTS", rows.size(), texts.length);
        for (int i = 0; i < texts.length; i++) {
            WhoseWave x = new WhoseWave();
            Due.tell(x, texts[i]);
            due.is("fault(0) of " + texts[i], x.fault(0), i);
            due.is("row " + i, Integer.parseInt(rows.get(i)[0].trim()), i);
        }
    }

    // ---- which answers each call may give
    private static Set<String> promised(String[] row) {
        Set<String> all = new TreeSet<>();
        if (!row[2].isBlank()) {
            all.add("-1");
        }
        if (!row[3].isBlank()) {
            all.add("-2");
        }
        Matcher other = Pattern.compile("([-A-Za-z0-9._]+):").matcher(row[4]);
        while (other.find()) {
            all.add(other.group(1));
        }
        return all;
    }

    private static String answer(WhoseWave x, Method method, Object[] numbers) {
        try {
            String got = method.invoke(x, numbers).toString();
            return got.equals(Long.toString(Long.MIN_VALUE)) ? "Long.MIN_VALUE" : got;
        } catch (InvocationTargetException e) {
            return e.getCause().getClass().getSimpleName();
        } catch (IllegalAccessException e) {
            return e.toString();
        }
    }

    private static boolean isOrdinary(String method, String answer) {
        // A law's own values may be anything; those that the table names are looked for.
        return answer.matches("\\d+|true") || method.equals("law") && answer.matches("-([3-9]|\\d\\d+)");
    }

    private static void askOne(Random random, List<Method> face, Map<String, Set<String>> seen) {
        String text = TEXTS[random.nextInt(TEXTS.length)];
        WhoseWave x = new WhoseWave();
        Due.tell(x, text);
        Method favourite = face.get(random.nextInt(face.size()));
        for (int i = 0; i < 300; i++) {
            Method method = random.nextBoolean() ? favourite : face.get(random.nextInt(face.size()));
            Object[] numbers = new Object[method.getParameterCount()];
            for (int k = 0; k < numbers.length; k++) {
                numbers[k] = NUMBERS[random.nextInt(NUMBERS.length)];
            }
            String got = answer(x, method, numbers);
            if (!isOrdinary(method.getName(), got)) {
                seen.get(method.getName()).add(got);
            }
            if (method.getName().equals("text") && got.equals("0")) {
                Due.tell(x, text);
            }
        }
    }

    private static void answers() {
        due.in("answers");
        Map<String, Set<String>> seen = new TreeMap<>();
        List<Method> face = new ArrayList<>();
        for (Method method : WhoseWave.class.getDeclaredMethods()) {
            if (Modifier.isPublic(method.getModifiers())) {
                face.add(method);
                seen.put(method.getName(), new TreeSet<>());
            }
        }
        // Reflection tells them in no fixed order, and the numbers by chance must be the same each time.
        face.sort((one, other) -> one.getName().compareTo(other.getName()));
        Random random = new Random(2026);
        for (int i = 0; i < 2000; i++) {
            askOne(random, face, seen);
        }
        for (String[] row : table("| call |")) {
            String name = code(row[0]);
            Set<String> got = seen.remove(name);
            due.that(name + " is a call, told once", got != null);
            due.that(name + " answers " + got + ", told is " + promised(row), promised(row).equals(got));
        }
        due.that("not told: " + seen.keySet(), seen.isEmpty());
    }

    private static void tests() throws IOException {
        due.in("tests");
        List<String> names = new ArrayList<>();
        for (String file : Path.of("src/test/java").toFile().list()) {
            names.add(file.replace(".java", ""));
        }
        Collections.sort(names);
        names.removeAll(Arrays.asList("Due"));
        for (String name : names) {
            due.that(name + " is told", page.contains("`" + name + "`"));
        }
    }

    public static void main(String[] args) throws IOException {
        page = read("README.md");
        example();
        lines();
        faults();
        answers();
        tests();
        due.end();
    }
}
