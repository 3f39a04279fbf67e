import java.io.IOException;
import java.lang.reflect.Method;
import java.lang.reflect.Modifier;
import java.nio.charset.StandardCharsets;
import java.nio.file.Files;
import java.nio.file.Path;
import java.util.ArrayList;
import java.util.Arrays;
import java.util.List;
import java.util.TreeSet;
import java.util.regex.Matcher;
import java.util.regex.Pattern;

/** What README.md tells of the class holds: its example, and its tables of calls and exceptions. */
public final class ReadmeTest {
    private static final Path PAGE = Path.of("README.md");
    private static final Path OWN_TEXT = Path.of("src", "test", "java", "ReadmeTest.java");
    private static final Pattern CALL = Pattern.compile("`(int|boolean) (\\w+)\\(([^)]*)\\)`");
    private static final Pattern EXCEPTION = Pattern.compile("`(\\w+Exception)`");

    private ReadmeTest() {
    }

    public static void main(String[] args) throws IOException {
        List<String> page = Files.readAllLines(PAGE, StandardCharsets.US_ASCII);
        example();
        exampleIsThePages(page);
        tablesAreTheFace(page);
        orderOfTheSections(page);
        allTestsAreNamed(page);
        Check.end("ReadmeTest");
    }

    private static void example() {
        // ---- the example of README.md, word for word
        CoverSheet desk = new CoverSheet();

        // set up
        int ann = desk.addPerson(1 << CoverSheet.EARLY | 1 << CoverSheet.LATE, 5); // 0
        int bob = desk.addPerson(1 << CoverSheet.EARLY | 1 << CoverSheet.NIGHT, 4); // 1
        int neededBefore = desk.setNeed(0, CoverSheet.EARLY, 1); // 0
        desk.setNeed(5, CoverSheet.EARLY, 1);
        desk.setNeed(6, CoverSheet.NIGHT, 2);
        boolean isNewRule = desk.forbid(CoverSheet.LATE, CoverSheet.NIGHT, true); // true
        int runAtFirst = desk.setRun(4); // 5
        boolean isNewWish = desk.wish(bob, 0, true); // true
        int fixedBefore = desk.fix(ann, 1, CoverSheet.OFF); // -1

        // plan
        int gaps = desk.plan(); // 1
        int rounds = desk.rounds(); // 2

        // change
        int entryBefore = desk.set(ann, 3, CoverSheet.LATE); // 0
        int brokenByBoth = desk.swap(ann, bob, 0); // 1

        // ask
        int entry = desk.entry(bob, 6); // 3
        int gap = desk.gap(6, CoverSheet.NIGHT); // 1
        int shifts = desk.shifts(ann); // 2
        int takers = desk.couldTake(3, CoverSheet.EARLY); // 2
        int helper = desk.swapFor(bob, 0); // 0
        int bound = desk.bound(); // 1

        // close
        int closed = desk.closeWeek(); // 1
        int run = desk.runBefore(bob); // 1
        int weekends = desk.weekends(bob); // 1
        // ---- the end of the example
        int[] answers = {
            ann, bob, neededBefore, runAtFirst, fixedBefore, gaps, rounds, entryBefore, brokenByBoth,
            entry, gap, shifts, takers, helper, bound, closed, run, weekends,
        };
        int[] due = {0, 1, 0, 5, -1, 1, 2, 0, 1, 3, 1, 2, 2, 0, 1, 1, 1, 1};
        Check.due("the numbers of the example", Arrays.toString(answers), Arrays.toString(due));
        Check.due("the rule of the example", isNewRule, true);
        Check.due("the wish of the example", isNewWish, true);
    }

    private static void exampleIsThePages(List<String> page) throws IOException {
        List<String> own = Files.readAllLines(OWN_TEXT, StandardCharsets.US_ASCII);
        List<String> tried = between(own, "// ---- the example of README.md, word for word",
                "// ---- the end of the example");
        List<String> told = between(page, "```java", "```");
        Check.due("the example has lines", told.size() > 20, true);
        Check.due("the example", told, tried);
    }

    /** The lines after the first one and ahead of the next that is the last one, without their margins. */
    private static List<String> between(List<String> lines, String first, String last) {
        List<String> found = new ArrayList<>();
        boolean isIn = false;
        for (String line : lines) {
            String bare = line.strip();
            if (isIn && bare.equals(last)) {
                return found;
            }
            if (isIn) {
                found.add(bare);
            }
            isIn = isIn || bare.equals(first);
        }
        return found;
    }

    /** Each call stands in one row, with its types and all that it throws, in the order of its clause. */
    private static void tablesAreTheFace(List<String> page) {
        List<String> told = new ArrayList<>();
        for (String line : page) {
            String[] cells = line.split("\\|");
            if (cells.length == 4) {
                Matcher call = CALL.matcher(cells[1].strip());
                if (call.matches()) {
                    told.add(toldBy(call, cells[3]));
                }
            }
        }
        TreeSet<String> face = new TreeSet<>();
        for (Method method : CoverSheet.class.getDeclaredMethods()) {
            if (Modifier.isPublic(method.getModifiers())) {
                face.add(toldOf(method));
            }
        }
        Check.due("the rows with calls", told.size(), 25);
        Check.due("the calls and their exceptions", new TreeSet<>(told), face);
    }

    private static String toldBy(Matcher call, String exceptions) {
        StringBuilder text = new StringBuilder(call.group(1)).append(' ').append(call.group(2));
        for (String parameter : call.group(3).split(", ")) {
            text.append(parameter.isEmpty() ? "" : " " + parameter.split(" ")[0]);
        }
        Matcher exception = EXCEPTION.matcher(exceptions);
        while (exception.find()) {
            text.append(' ').append(exception.group(1));
        }
        return text.toString();
    }

    private static String toldOf(Method method) {
        StringBuilder text = new StringBuilder();
        text.append(method.getReturnType().getSimpleName()).append(' ').append(method.getName());
        for (Class<?> type : method.getParameterTypes()) {
            text.append(' ').append(type.getSimpleName());
        }
        for (Class<?> type : method.getExceptionTypes()) {
            text.append(' ').append(type.getSimpleName());
        }
        return text.toString();
    }

    private static void orderOfTheSections(List<String> page) {
        List<String> sections = new ArrayList<>();
        for (String line : page) {
            if (line.startsWith("#")) {
                sections.add(line.replace("#", "").strip());
            }
        }
        Check.due("the sections", sections, List.of("CoverSheet", "How to use it", "Setting up", "Planning",
                "Changing", "Asking about the roster", "Asking what is possible", "Closing",
                "How to run its tests"));
    }

    private static void allTestsAreNamed(List<String> page) throws IOException {
        String text = String.join("\n", page);
        Check.due("README.md names .ci/run", text.contains("    .ci/run\n"), true);
        try (var files = Files.newDirectoryStream(OWN_TEXT.getParent(), "*.java")) {
            for (Path file : files) {
                String name = file.getFileName().toString().replace(".java", "");
                Check.due("README.md names " + name, text.contains("`" + name + "`"), true);
            }
        }
    }
}
