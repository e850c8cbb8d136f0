import java.io.IOException;
import java.lang.reflect.Constructor;
import java.lang.reflect.Field;
import java.lang.reflect.Method;
import java.lang.reflect.Modifier;
import java.nio.file.Files;
import java.nio.file.Path;
import java.util.ArrayList;
import java.util.Arrays;
import java.util.Collections;
import java.util.List;
import java.util.regex.Matcher;
import java.util.regex.Pattern;

/** What of ../shared/LANGUAGE.md can be seen from outside. */
public final class LanguageTest {
    private static final Due due = new Due();
    private static final List<String> FACE = Arrays.asList("int feed(int,int,int,int,int)", "int text(int)", "int fault(int)", "int named(int)",
        "int look(int,int)", "int wave(int,int)", "int peak(int)", "int odds(int,int,int)", "long law(int,int,int)", "int stroke(int,int)",
        "boolean rule(int)", "int minutes(int)", "int order(int,int)", "int deeper(int,int)", "int seat(int,int)", "int best(int)",
        "int rests(int,int)", "int rest(int,int,int)", "int rank(int,int)", "int plan(int)", "int planned(int,int)", "int go(int,int,int)",
        "int give(int,int,int)", "int table(int,int,int)", "int fairest(int)", "int over(int)", "int next()", "int gaps(int,int)", "int shares(int)",
        "int note(int,int,int)", "int strike(int)", "boolean known(int)", "int locals(int)", "int chance(int,int,int)", "int tried(int,int,int)",
        "int undo()", "int keep()", "int back()", "int count(int)");

    private static String shape(Method method) {
        StringBuilder all = new StringBuilder(method.getReturnType().getSimpleName() + " " + method.getName() + "(");
        for (Class<?> type : method.getParameterTypes()) {
            all.append(all.charAt(all.length() - 1) == '(' ? "" : ",").append(type.getSimpleName());
        }
        return all.append(")").toString();
    }

    private static void face() {
        due.in("rule 1");
        due.that("public and final", Modifier.isPublic(WhoseWave.class.getModifiers()) && Modifier.isFinal(WhoseWave.class.getModifiers()));
        List<String> found = new ArrayList<>();
        List<String> names = new ArrayList<>();
        for (Method method : WhoseWave.class.getDeclaredMethods()) {
            if (Modifier.isPublic(method.getModifiers())) {
                found.add(shape(method));
                names.add(method.getName());
            } else {
                due.that(method + " is private", Modifier.isPrivate(method.getModifiers()));
            }
        }
        for (String method : FACE) {
            due.that(method + " is there", found.remove(method));
        }
        due.that("no other: " + found, found.isEmpty());
        for (Constructor<?> constructor : WhoseWave.class.getDeclaredConstructors()) {
            due.that(constructor + "", Modifier.isPublic(constructor.getModifiers()) && constructor.getParameterCount() == 0);
        }
        for (Field field : WhoseWave.class.getDeclaredFields()) {
            boolean shown = field.getName().equals("NONE");
            due.that(field + "", shown ? Modifier.isPublic(field.getModifiers()) : Modifier.isPrivate(field.getModifiers()));
        }
        inside(WhoseWave.class, names);
        for (Class<?> one : WhoseWave.class.getDeclaredClasses()) {
            due.that(one + " is static", Modifier.isStatic(one.getModifiers()) && !Modifier.isPublic(one.getModifiers()));
            inside(one, names);
        }
        due.that("some twelve classes", WhoseWave.class.getDeclaredClasses().length < 12);
    }

    // The document's face as it stands there, with what each method may throw.
    private static void faceOfTheDocument() throws IOException {
        due.in("the document's face");
        String document = Files.readString(Path.of("../shared/DOC.md"));
        Matcher line = Pattern.compile("^    public (\\w+ \\w+)\\(([^)]*)\\)(?: throws ([\\w, ]+))?;$", Pattern.MULTILINE).matcher(document);
        List<String> told = new ArrayList<>();
        while (line.find()) {
            String types = line.group(2).replaceAll("(\\w+) \\w+(, )?", "$1,").replaceAll(",$", "");
            told.add(line.group(1) + "(" + types + ") " + (line.group(3) == null ? "" : line.group(3)));
        }
        List<String> found = new ArrayList<>();
        for (Method method : WhoseWave.class.getDeclaredMethods()) {
            if (Modifier.isPublic(method.getModifiers())) {
                StringBuilder thrown = new StringBuilder();
                for (Class<?> type : method.getExceptionTypes()) {
                    thrown.append(thrown.length() == 0 ? "" : ", ").append(type.getSimpleName());
                }
                found.add(shape(method) + " " + thrown);
            }
        }
        due.is("methods told", told.size(), FACE.size());
        Collections.sort(told);
        Collections.sort(found);
        due.that("told " + told + ", found " + found, told.equals(found));
    }

    private static void inside(Class<?> one, List<String> names) {
        int fields = 0;
        for (Field field : one.getDeclaredFields()) {
            boolean constant = Modifier.isStatic(field.getModifiers());
            fields += constant ? 0 : 1;
            due.that(field + " is final, if static", !constant || Modifier.isFinal(field.getModifiers()));
        }
        due.that(one + " has some twenty fields", fields <= 20);
        for (Method method : one.getDeclaredMethods()) {
            due.that(method + " takes at most seven", method.getParameterCount() <= 7);
            due.that(method + " bears a name of its own", one == WhoseWave.class && Modifier.isPublic(method.getModifiers())
                || !names.contains(method.getName()));
        }
    }

    private static void words(String source) {
        due.in("rules 2 to 6, 13");
        for (String word : new String[] {"\\bimport (?!java\\.util\\.NoSuchElementException;)", "->", "::", "\\btry\\b", "\\bfinally\\b",
            "\\bsynchronized\\b", "\\bassert\\b", "\\bdouble\\b", "\\bfloat\\b", "System\\.(?!arraycopy)", "\\bMath\\.(?!min|max|abs)", "\\bstatic \\{",
            "\\bpackage\\b", "Exact\\b", "Random", "\\+ \"", "\" \\+", "\\bequals\\(", "hashCode", "toString"}) {
            due.that(word + " isn't there", !Pattern.compile(word).matcher(source).find());
        }
    }

    private static void shortMethods(String[] lines) {
        due.in("rule 11");
        int from = -1;
        for (int i = 0; i < lines.length; i++) {
            boolean begins = lines[i].matches("(    |        )[A-Za-z].*\\) (throws .*)?\\{");
            from = begins ? i : from;
            boolean ends = from >= 0 && lines[i].equals(lines[from].replaceAll("\\S.*", "") + "}");
            if (ends) {
                due.that(lines[from].trim() + " is short", i - from < 62);
                from = -1;
            }
        }
    }

    // All is made in constructors: calls make nothing.
    private static void making(String[] lines) {
        due.in("rule 12");
        boolean inConstructor = false;
        for (String line : lines) {
            Matcher begins = Pattern.compile("^(    public |        )[A-Z][A-Za-z]*\\(.*\\) \\{$").matcher(line);
            inConstructor = begins.matches() || inConstructor && !line.matches("    (    )?\\}");
            due.that("makes nothing: " + line.trim(), inConstructor || !line.contains("new ") || line.contains("throw new "));
        }
    }

    public static void main(String[] args) throws IOException {
        String source = Files.readString(Path.of("src/main/java/WhoseWave.java"));
        face();
        faceOfTheDocument();
        words(source);
        shortMethods(source.split("\n"));
        making(source.split("\n"));
        due.end();
    }
}
