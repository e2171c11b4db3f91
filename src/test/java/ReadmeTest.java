import java.io.IOException;
import java.lang.reflect.InvocationTargetException;
import java.lang.reflect.Method;
import java.lang.reflect.Modifier;
import java.nio.file.Files;
import java.nio.file.Path;
import java.util.ArrayList;
import java.util.Arrays;
import java.util.Comparator;
import java.util.List;
import java.util.regex.Matcher;
import java.util.regex.Pattern;
import java.util.stream.Stream;

/** README.md does what it says: its calls answer so, its programs print so, its commands run. */
public final class ReadmeTest {
    private static final Path README = Path.of("README.md");
    private static final String SHARED_TESTS = "../shared/tests/";
    private static final Pattern CALL = Pattern.compile("x\\.(\\w+)\\((.*)\\); +// (.+)");
    private static final Pattern PROGRAM = Pattern.compile("public class (\\w+) .*");

    private static int wrong = 0;

    /** What stands between two lines of three strokes; the language may be "". */
    private record Block(String language, List<String> lines) {
        boolean isProgram() {
            return language.equals("java") && PROGRAM.matcher(lines.get(0)).matches();
        }

        boolean isOfCalls() {
            return language.equals("java") && !isProgram();
        }

        /** All tests together would run this one again; and the tests that are shared come and go. */
        boolean canRun() {
            String all = String.join("\n", lines);
            Matcher shared = Pattern.compile(SHARED_TESTS + "\\w+\\.java").matcher(all);
            return language.equals("sh") && !all.contains(".ci/run")
                    && (!shared.find() || Files.exists(Path.of(shared.group())));
        }
    }

    private ReadmeTest() {
    }

    public static void main(String[] args) throws IOException, InterruptedException {
        List<Block> blocks = blocks();
        blocks.stream().filter(Block::isOfCalls).forEach(ReadmeTest::checkCalls);
        checkCommands(blocks);
        checkNames(blocks);
        System.out.println(wrong == 0 ? "the readme tells what is so" : wrong + " faults in the readme");
        System.exit(wrong == 0 ? 0 : 1);
    }

    private static void check(boolean isGood, String what) {
        if (!isGood) {
            wrong++;
            System.out.println(what);
        }
    }

    private static List<Block> blocks() throws IOException {
        List<Block> blocks = new ArrayList<>();
        Block open = null;
        for (String line : Files.readAllLines(README)) {
            if (open != null && line.equals("```")) {
                blocks.add(open);
                open = null;
            } else if (open != null) {
                open.lines().add(line);
            } else if (line.startsWith("```")) {
                open = new Block(line.substring(3), new ArrayList<>());
            }
        }
        check(open == null, "a block of code does not end");
        return blocks;
    }

    /** A block of calls makes one object and says behind each call what it answers. */
    private static void checkCalls(Block block) {
        String first = block.lines().get(0);
        check(first.equals("Seatpower x = new Seatpower();"), "no object is made: " + first);
        Seatpower x = new Seatpower();
        for (String line : block.lines().subList(1, block.lines().size())) {
            Matcher call = CALL.matcher(line);
            if (call.matches()) {
                String got = answer(x, call.group(1), call.group(2));
                String said = call.group(3);
                check(said.equals(got) || said.startsWith(got + ": "), line + " -- answers " + got);
            } else {
                check(line.isBlank(), "no call with an answer: " + line);
            }
        }
    }

    private static String answer(Seatpower x, String name, String list) {
        String[] words = list.isBlank() ? new String[0] : list.split(", ");
        Method method = face().filter(one -> one.getName().equals(name)).findFirst().orElse(null);
        if (method == null || method.getParameterCount() != words.length) {
            return "nothing, there is no such call";
        }
        Object[] arguments = new Object[words.length];
        for (int place = 0; place < words.length; place++) {
            boolean isTruth = method.getParameterTypes()[place] == boolean.class;
            String word = words[place];
            arguments[place] = isTruth ? (Object) Boolean.valueOf(word) : (Object) Integer.valueOf(word);
        }
        try {
            Object got = method.invoke(x, arguments);
            return got instanceof String ? "\"" + got + "\"" : got.toString();
        } catch (InvocationTargetException e) {
            return "throws " + e.getCause().getClass().getSimpleName();
        } catch (IllegalAccessException e) {
            return "nothing, the call is hidden";
        }
    }

    private static Stream<Method> face() {
        return Arrays.stream(Seatpower.class.getDeclaredMethods())
                .filter(method -> Modifier.isPublic(method.getModifiers()));
    }

    /** Runs the commands in a place that looks like the project, so that what they make goes with it. */
    private static void checkCommands(List<Block> blocks) throws IOException, InterruptedException {
        Path room = Files.createTempDirectory("readme");
        Path project = Files.createDirectory(room.resolve("main"));
        Files.createSymbolicLink(project.resolve("src"), Path.of("src").toRealPath());
        Files.createSymbolicLink(room.resolve("shared"), Path.of("../shared").toRealPath());
        for (Block block : blocks) {
            if (block.isProgram()) {
                Matcher name = PROGRAM.matcher(block.lines().get(0));
                check(name.matches(), "a program without a name");
                Files.write(project.resolve(name.group(1) + ".java"), block.lines());
            }
        }
        for (int place = 0; place < blocks.size(); place++) {
            if (blocks.get(place).canRun()) {
                boolean isShown = place + 1 < blocks.size() && blocks.get(place + 1).language().isEmpty();
                runCommands(project, blocks.get(place).lines(), isShown ? blocks.get(place + 1).lines() : null);
            }
        }
        remove(room);
    }

    private static void runCommands(Path project, List<String> commands, List<String> due)
            throws IOException, InterruptedException {
        Process shell = new ProcessBuilder("sh", "-e", "-c", String.join("\n", commands)).directory(project.toFile())
                .redirectError(ProcessBuilder.Redirect.INHERIT).start();
        List<String> got = new String(shell.getInputStream().readAllBytes()).lines().toList();
        check(shell.waitFor() == 0, commands + " -- fails, and prints " + got);
        check(due == null || due.equals(got), commands + " -- prints " + got);
    }

    private static void remove(Path room) throws IOException {
        try (Stream<Path> all = Files.walk(room)) {
            for (Path path : all.sorted(Comparator.reverseOrder()).toList()) {
                Files.delete(path);
            }
        }
    }

    /** Each call of the face is shown, each test of the project is named, and how all of them are run is said. */
    private static void checkNames(List<Block> blocks) throws IOException {
        String shown = String.join("\n", blocks.stream().filter(Block::isOfCalls)
                .flatMap(block -> block.lines().stream()).toList());
        face().map(Method::getName).forEach(name -> check(shown.contains("x." + name + "("), name + "() is not shown"));
        String all = Files.readString(README);
        try (Stream<Path> tests = Files.list(Path.of("src/test/java"))) {
            tests.map(test -> test.getFileName().toString()).filter(test -> test.endsWith("Test.java"))
                    .map(test -> test.replace(".java", ""))
                    .forEach(test -> check(all.contains("- `" + test + "`"), test + " is not named"));
        }
        check(blocks.stream().anyMatch(block -> block.language().equals("sh") && block.lines().contains(".ci/run"))
                && Files.isExecutable(Path.of(".ci/run")), "no way to run all tests");
    }
}
