import java.io.File;
import java.io.IOException;
import java.lang.reflect.Method;
import java.lang.reflect.Modifier;
import java.nio.file.Files;
import java.nio.file.Path;
import java.util.regex.Matcher;
import java.util.regex.Pattern;

/** README.md must be true: its examples, its list of calls, its settings and its command. */
public final class ReadmeTest {
    private static final Check CHECK = new Check();
    private static final int CALLS = 31;

    public static void main(String[] args) throws IOException {
        String readme = Files.readString(Path.of("README.md"));
        examplesAnswerAsTold(readme);
        examplesStandHere(readme);
        everyCallIsListed(readme, Files.readString(Path.of("../shared/DOC.md")));
        settingsAreAsTold(readme);
        commandRunsTheTests(readme);
        CHECK.end();
    }

    private static void examplesAnswerAsTold(String readme) {
        CHECK.at("README's examples");
        EchoGauge gauge = new EchoGauge();
        gauge.begin(3000);
        gauge.setLevel(1200);
        gauge.addThing(400, 70);
        gauge.setStirrer(2, 300, 600, 47, 20);
        int masked = gauge.learn(10);
        told(readme, "masked", masked, "3");
        gauge.set(5, 2);
        int picks = gauge.shoot(20);
        told(readme, "picks", picks, "16");
        int level = gauge.gauge(3);
        told(readme, "level", level, "1200");
        gauge.setFlow(15);
        int worst = gauge.worstError(50);
        told(readme, "worst", worst, "73");
        int left = gauge.undo();
        told(readme, "left", left, "3");
        CHECK.due("flow behind undo()", gauge.tank(2), 0);
        gauge.clearCommands();
        for (char sign : "level 900; shoot 5;".toCharArray()) {
            gauge.type(sign);
        }
        int done = gauge.runCommands();
        told(readme, "done", done, "2");
        gauge.type('!');
        int fault = gauge.runCommands();
        told(readme, "fault", fault, "-29");
    }

    /** The comment behind the example's line must name the answer. */
    private static void told(String readme, String name, int got, String want) {
        CHECK.due(name, got, Integer.parseInt(want));
        Matcher line = Pattern.compile("^int " + name + " = .*// (.*)$", Pattern.MULTILINE).matcher(readme);
        boolean found = line.find();
        CHECK.due("README has " + name, found, true);
        CHECK.due("README tells " + want, found && hasNumber(line.group(1), want), true);
    }

    private static boolean hasNumber(String text, String number) {
        return Pattern.compile("(?<![-\\d])" + number + "(?!\\d)").matcher(text).find();
    }

    private static void examplesStandHere(String readme) throws IOException {
        CHECK.at("README's examples in ReadmeTest");
        String here = Files.readString(Path.of("src/test/java/ReadmeTest.java"));
        Matcher blocks = Pattern.compile("```java\n(.*?)```", Pattern.DOTALL).matcher(readme);
        int lines = 0;
        while (blocks.find()) {
            for (String line : blocks.group(1).split("\n")) {
                String code = line.replaceAll("//.*", "").trim();
                CHECK.due(code, here.contains(" " + code + "\n"), true);
                lines++;
            }
        }
        CHECK.due("lines of examples", lines > 10, true);
    }

    /** Each call of the document has a row in a table, with its arguments' names, marked if it is undoable. */
    private static void everyCallIsListed(String readme, String document) {
        CHECK.at("README's calls");
        Matcher promise = Pattern.compile("^## Promise \\d+: (\\w+)\n\n`\\w+ \\1\\((.*?)\\)[^`]*`: (.*)$",
            Pattern.MULTILINE).matcher(document);
        int calls = 0;
        while (promise.find()) {
            String names = promise.group(2).replaceAll("\\b(int|boolean) ", "");
            String mark = promise.group(3).contains("Undoable") ? " *" : "";
            String row = "| `" + promise.group(1) + "(" + names + ")`" + mark + " |";
            CHECK.due(row, readme.contains("\n" + row), true);
            calls++;
        }
        CHECK.due("promises of calls", calls, CALLS);
        int open = 0;
        for (Method method : EchoGauge.class.getDeclaredMethods()) {
            if (Modifier.isPublic(method.getModifiers())) {
                CHECK.due(method.getName() + " has a row", readme.contains("\n| `" + method.getName() + "("), true);
                open++;
            }
        }
        CHECK.due("public methods", open, CALLS);
    }

    private static void settingsAreAsTold(String readme) {
        CHECK.at("README's settings");
        Matcher row = Pattern.compile("^\\| (\\d+) \\| .* \\| (\\d+) to (\\d+) \\| (\\d+) \\|$", Pattern.MULTILINE)
            .matcher(readme);
        int rows = 0;
        while (row.find()) {
            int what = Integer.parseInt(row.group(1));
            int least = Integer.parseInt(row.group(2));
            int most = Integer.parseInt(row.group(3));
            CHECK.due("rows are in order", what, rows);
            CHECK.due("at first " + what, new EchoGauge().setting(what), Integer.parseInt(row.group(4)));
            int[] inside = {least, most};
            for (int value : inside) {
                EchoGauge gauge = withWidestLimits();
                gauge.set(what, value);
                CHECK.due("set(" + what + ")", gauge.setting(what), value);
            }
            EchoGauge gauge = withWidestLimits();
            CHECK.badArgument("set(" + what + ")", gauge, () -> gauge.set(what, least - 1));
            CHECK.badArgument("set(" + what + ")", gauge, () -> gauge.set(what, most + 1));
            rows++;
        }
        CHECK.due("settings", rows, 12);
    }

    private static EchoGauge withWidestLimits() {
        EchoGauge gauge = new EchoGauge();
        gauge.set(9, 0);
        gauge.set(10, 10000);
        return gauge;
    }

    private static void commandRunsTheTests(String readme) {
        CHECK.at("README's command");
        CHECK.due("README tells .ci/run", readme.contains("```sh\n.ci/run\n```"), true);
        CHECK.due(".ci/run is executable", Files.isExecutable(Path.of(".ci/run")), true);
        Matcher test = Pattern.compile("`(\\w+Test|Edges|Model)`").matcher(readme);
        while (test.find()) {
            CHECK.due(test.group(1), Files.exists(Path.of("src/test/java/" + test.group(1) + ".java")), true);
        }
        String[] files = new File("src/test/java").list();
        CHECK.due("there are tests", files != null && files.length > 0, true);
        for (int i = 0; files != null && i < files.length; i++) {
            if (files[i].endsWith("Test.java")) {
                CHECK.due(files[i], readme.contains("`" + files[i].replace(".java", "`")), true);
            }
        }
    }
}
