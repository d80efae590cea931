import java.io.File;
import java.io.IOException;
import java.nio.charset.StandardCharsets;
import java.nio.file.Files;
import java.nio.file.Path;
import java.util.ArrayList;
import java.util.Comparator;
import java.util.List;
import java.util.Map;
import java.util.regex.Matcher;
import java.util.regex.Pattern;
import java.util.stream.Stream;

/** What README.md shows is so; and the reader that looks at it does see what isn't. */
public final class ReadmeTest {
    private static final Check CHECK = new Check("ReadmeTest");
    private static final Path SOURCE = Path.of("src/main/java/GobRow.java");
    private static final Path TESTS = Path.of("src/test/java");

    public static void main(String[] args) throws IOException, InterruptedException {
        Face face = Face.ofDocument();
        String text = Files.readString(Path.of("README.md"));
        readerSeesFaults(face);
        callsAnswerAsTold(text, face);
        eachAnswerIsLookedAt(text, face);
        constantsAreAsTold(text, face);
        programPrintsAsTold(text, face);
        testsAreNamed(text);
        howManyCallsIsTold(text);
        CHECK.end();
    }

    private static void callsAnswerAsTold(String text, Face face) {
        Readme readme = new Readme(text, face);
        for (String fault : readme.faults) {
            CHECK.holds("README.md, " + fault, false);
        }
        for (Face.Call call : face.calls.values()) {
            CHECK.holds("README.md makes no call of " + call.name, readme.made.contains(call.name));
            CHECK.holds("README.md doesn't tell " + call.asTold(), readme.told.contains(call.name));
        }
        CHECK.holds("README.md makes only " + readme.answers + " calls", readme.answers > face.calls.size());
    }

    /** Any line that has a call of row and an answer, made wrong, is seen: so none slips past the reader. */
    private static void eachAnswerIsLookedAt(String text, Face face) {
        Matcher answer = Pattern.compile("(?m)^.*row\\.\\w+\\(.*// *(-?\\d+)").matcher(text);
        while (answer.find()) {
            int wrong = Integer.parseInt(answer.group(1)) + 1;
            String altered = text.substring(0, answer.start(1)) + wrong + text.substring(answer.end(1));
            CHECK.due("faults with " + wrong + " in " + answer.group(), 1, new Readme(altered, face).faults.size());
        }
    }

    private static void constantsAreAsTold(String text, Face face) {
        for (Map.Entry<String, Integer> constant : face.constants.entrySet()) {
            String row = "\n| `" + constant.getKey() + "` | " + constant.getValue() + " | ";
            CHECK.holds("README.md has no row" + row, text.contains(row));
        }
    }

    /** The blocks stand one behind the other: the program, how it is compiled and run, what it prints. */
    private static void programPrintsAsTold(String text, Face face) throws IOException, InterruptedException {
        List<Readme.Block> blocks = new Readme(text, face).blocks;
        int programs = 0;
        for (int k = 0; k + 2 < blocks.size(); k++) {
            if (blocks.get(k).isProgram()) {
                programs++;
                CHECK.holds("behind the program stand commands", blocks.get(k + 1).language.equals("sh"));
                CHECK.holds("behind the commands stands what is printed", blocks.get(k + 2).language.equals("text"));
                String printed = run(blocks.get(k).text(), blocks.get(k + 1).text());
                CHECK.holds("the program of README.md printed " + printed, printed.equals(blocks.get(k + 2).text()));
            }
        }
        CHECK.due("programs in README.md", 1, programs);
    }

    private static String run(String program, String commands) throws IOException, InterruptedException {
        Matcher name = Pattern.compile("public final class (\\w+)").matcher(program);
        if (!name.find()) {
            return "nothing: it has no public final class";
        }
        Path folder = Files.createTempDirectory("readme");
        try {
            Path source = folder.resolve(SOURCE);
            Files.createDirectories(source.getParent());
            Files.copy(SOURCE, source);
            Files.writeString(folder.resolve(name.group(1) + ".java"), program);
            return output(folder.toFile(), commands);
        } finally {
            remove(folder);
        }
    }

    private static String output(File folder, String commands) throws IOException, InterruptedException {
        Process process = new ProcessBuilder("bash", "-e", "-c", commands)
            .directory(folder).redirectErrorStream(true).start();
        process.getOutputStream().close();
        String printed = new String(process.getInputStream().readAllBytes(), StandardCharsets.UTF_8);
        int code = process.waitFor();
        return code == 0 ? printed : printed + "(exit code " + code + ")";
    }

    private static void remove(Path folder) throws IOException {
        List<Path> paths = new ArrayList<>();
        try (Stream<Path> walk = Files.walk(folder)) {
            walk.sorted(Comparator.reverseOrder()).forEach(paths::add);
        }
        for (Path path : paths) {
            Files.delete(path);
        }
    }

    private static void testsAreNamed(String text) throws IOException {
        CHECK.holds("README.md names .ci/run", text.contains("```sh\n.ci/run\n```"));
        CHECK.holds(".ci/run can be run", Files.isExecutable(Path.of(".ci/run")));
        List<String> names = new ArrayList<>();
        try (Stream<Path> files = Files.list(TESTS)) {
            files.map(path -> path.getFileName().toString()).filter(name -> name.endsWith("Test.java")).forEach(names::add);
        }
        for (String name : names) {
            String test = name.substring(0, name.length() - ".java".length());
            CHECK.holds("README.md doesn't name " + test, text.contains("`" + test + "`"));
        }
        Matcher named = Pattern.compile("`(\\w+Test)`").matcher(text);
        while (named.find()) {
            CHECK.holds("README.md names " + named.group(1), names.contains(named.group(1) + ".java"));
        }
    }

    private static void howManyCallsIsTold(String text) throws IOException {
        String document = Files.readString(Path.of("../shared/DOC.md"));
        CHECK.holds("the document says 512", document.contains("at most 512 calls after it has been made"));
        CHECK.holds("README.md says 512", text.contains("512 calls after it has been made"));
    }

    private static void readerSeesFaults(Face face) {
        faultsIn(face, 0, "row.cut(13);   // 1: as it is");
        faultsIn(face, 0, "row.pull(0, true);   // 1: as it is");
        faultsIn(face, 0, "row.pace(61);   // -1: as it is");
        faultsIn(face, 1, "row.cut(13);   // 2: a wrong answer");
        faultsIn(face, 1, "row.pace(61);   // 1: a wrong sign");
        faultsIn(face, 1, "row.cut(13);");
        faultsIn(face, 1, "row.cut(13);   // 1");
        faultsIn(face, 1, "row.cut(12, 1);   // 0: one too many");
        faultsIn(face, 1, "row.hashCode();   // 0: not of the document");
        faultsIn(face, 1, "row.pull(0, 1);   // 1: not of its type");
        faultsIn(face, 1, "row.cut(n);   // 1: no number");
        faultsIn(face, 1, "int off = row.cut(13);   // 1: another form");
        faultsIn(face, 1, "other.cut(13);   // 1: another object");
        faultsOf(face, 2, "```java\nrow.drain();  // 0: neither an object nor a call of one\n```\n");
        faultsOf(face, 1, "```java\nGobRow row = new GobRow();\nrow.drain();  // 0: a block without an end\n");
        faultsOf(face, 1, "In a plain line `cut(13)` answers 1.\n");
        faultsOf(face, 1, "In a plain line `cut(m)` bears another name.\n");
        faultsOf(face, 0, "In a plain line `cut(n)` is as the document has it.\n");
    }

    /** The line stands in a block that is right but for it. */
    private static void faultsIn(Face face, int want, String line) {
        String fine = "row.forget();  // 0: none is told\n";
        faultsOf(face, want, "```java\nGobRow row = new GobRow();\n" + fine + line + "\n```\n");
    }

    private static void faultsOf(Face face, int want, String text) {
        CHECK.due("how many faults are found in " + text, want, new Readme(text, face).faults.size());
    }
}
