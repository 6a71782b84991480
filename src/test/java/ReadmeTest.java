import java.io.IOException;
import java.lang.reflect.Method;
import java.lang.reflect.Modifier;
import java.nio.file.DirectoryStream;
import java.nio.file.Files;
import java.nio.file.Path;
import java.nio.file.StandardCopyOption;
import java.util.ArrayList;
import java.util.List;
import java.util.TreeSet;
import java.util.regex.Matcher;
import java.util.regex.Pattern;

/** That README.md is so: its example is compiled and run by its own commands, and it lists the tests that there are. */
public final class ReadmeTest {
    private static final Path PROGRAM = Path.of("src/main/java/OfficeholdersRoll.java");
    private static final Path TESTS = Path.of("src/test/java");
    /** A folder of its own, so that the commands leave nothing among the project's files. */
    private static final Path FOLDER = Path.of("build/readme");
    /** What is declared by a call, if anything is; the call; what it answers, up to a comma. */
    private static final Pattern ANSWERED = Pattern.compile("(?:int (\\w+) = )?(roll\\.\\w+\\(.*\\)); +// ([^,]+).*");

    private final String text;
    private final List<String> callsOfExample = new ArrayList<>();
    private final List<String> answersDue = new ArrayList<>();

    private ReadmeTest(String text) {
        this.text = text;
    }

    public static void main(String[] args) throws IOException, InterruptedException {
        ReadmeTest test = new ReadmeTest(Files.readString(Path.of("README.md")));
        List<String> examples = test.blocks("java");
        List<String> commands = test.blocks("sh");
        Due.is("examples", 1, examples.size());
        Due.is("commands: those to use it, that to run the tests", 2, commands.size());
        if (!Due.isAnyWrong()) {
            test.exampleIsSo(examples.get(0), commands.get(0));
            test.hasEachCall();
            test.runsTheTests(commands.get(1).trim());
            test.listsTheTests();
        }
        Due.end();
    }

    private List<String> blocks(String language) {
        List<String> blocks = new ArrayList<>();
        Matcher found = Pattern.compile("(?s)```" + language + "\n(.*?)```").matcher(text);
        while (found.find()) {
            blocks.add(found.group(1));
        }
        return blocks;
    }

    private void exampleIsSo(String example, String commands) throws IOException, InterruptedException {
        Path copy = FOLDER.resolve(PROGRAM);
        Files.createDirectories(copy.getParent());
        Files.copy(PROGRAM, copy, StandardCopyOption.REPLACE_EXISTING);
        Files.writeString(FOLDER.resolve("YourProgram.java"), printing(example));
        Process use = new ProcessBuilder("sh", "-e", "-c", commands)
                .directory(FOLDER.toFile()).redirectErrorStream(true).start();
        List<String> printed = new String(use.getInputStream().readAllBytes()).lines().toList();
        Due.is("exit code of the commands, which printed " + printed, 0, use.waitFor());
        Due.is("so many answers", answersDue.size(), printed.size());
        for (int k = 0; k < Math.min(answersDue.size(), printed.size()); k++) {
            Due.is(callsOfExample.get(k), answersDue.get(k), printed.get(k));
        }
    }

    /** The example as a program that prints what its calls answer, a line each. */
    private String printing(String example) {
        StringBuilder program = new StringBuilder("class YourProgram {\npublic static void main(String[] args) {\n");
        for (String line : example.split("\n")) {
            Matcher call = ANSWERED.matcher(line);
            if (!call.matches()) {
                Due.is("a call without what it answers: " + line, false, line.contains("roll."));
                program.append(line).append('\n');
                continue;
            }
            callsOfExample.add(call.group(2));
            answersDue.add(call.group(3).trim());
            if (call.group(1) != null) {
                program.append(line).append("\nSystem.out.println(").append(call.group(1)).append(");\n");
            } else {
                program.append("try { System.out.println(").append(call.group(2)).append("); } ")
                        .append("catch (RuntimeException e) { ")
                        .append("System.out.println(\"throws \" + e.getClass().getSimpleName()); }\n");
            }
        }
        return program.append("}\n}\n").toString();
    }

    private void hasEachCall() {
        for (Method method : OfficeholdersRoll.class.getDeclaredMethods()) {
            if (Modifier.isPublic(method.getModifiers())) {
                String call = "roll." + method.getName() + "(";
                Due.is("the example has " + call, true, callsOfExample.stream().anyMatch(c -> c.startsWith(call)));
            }
        }
    }

    private void runsTheTests(String command) {
        Due.is("the command that runs the tests", ".ci/run", command);
        Due.is("it can be run", true, Files.isExecutable(Path.of(command)));
    }

    private void listsTheTests() throws IOException {
        TreeSet<String> there = new TreeSet<>();
        try (DirectoryStream<Path> files = Files.newDirectoryStream(TESTS, "*Test.java")) {
            for (Path file : files) {
                there.add(file.getFileName().toString().replace(".java", ""));
            }
        }
        TreeSet<String> listed = new TreeSet<>();
        Matcher names = Pattern.compile("`(\\w+Test)`").matcher(text);
        while (names.find()) {
            listed.add(names.group(1));
        }
        Due.is("the tests that the page lists", there, listed);
    }
}
