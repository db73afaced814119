import java.io.IOException;
import java.lang.reflect.Method;
import java.lang.reflect.Modifier;
import java.nio.charset.StandardCharsets;
import java.nio.file.FileVisitResult;
import java.nio.file.Files;
import java.nio.file.Path;
import java.nio.file.SimpleFileVisitor;
import java.nio.file.attribute.BasicFileAttributes;
import java.util.ArrayList;
import java.util.List;
import java.util.regex.Matcher;
import java.util.regex.Pattern;

/**
 * What README.md says works as it stands there: its program is saved and run by its own commands, the
 * lines behind it are run as they come, each with the answer that stands behind it.
 */
public final class ReadmeTest {
    private static final Due DUE = new Due("ReadmeTest");
    private static final Pattern CALL = Pattern.compile("(x\\.(\\w+)\\([^;]*\\)); +// (-?\\d+|[A-Z]+)(:? .*)?");

    /** What stands between two fences: its kind (java, sh, text) and its lines. */
    private record Block(String kind, int firstLine, List<String> lines) {
        String text() {
            return String.join("\n", lines) + "\n";
        }
    }

    private final Path root;
    private final List<String> page;
    private final List<Block> blocks = new ArrayList<>();
    /** A project of its own beside the shared directory, so that what the page makes does not stay. */
    private final Path room;

    private ReadmeTest(Path root) throws IOException {
        this.root = root;
        page = Files.readAllLines(root.resolve("README.md"), StandardCharsets.UTF_8);
        room = Files.createTempDirectory("readme");
    }

    public static void main(String[] args) throws Exception {
        Path source = Path.of(Due.source(args)).toAbsolutePath().normalize();
        ReadmeTest test = new ReadmeTest(source.getParent().getParent().getParent().getParent());
        try {
            test.cutIntoBlocks();
            test.furnishRoom();
            test.program();
            test.tour();
            test.testCommands();
            test.tables();
        } finally {
            test.clearRoom();
        }
        DUE.end();
    }

    private void cutIntoBlocks() {
        Block open = null;
        for (int i = 0; i < page.size(); i++) {
            String line = page.get(i);
            if (open != null && line.equals("```")) {
                blocks.add(open);
                open = null;
            } else if (open != null) {
                open.lines().add(line);
            } else if (line.startsWith("```")) {
                open = new Block(line.substring(3), i + 2, new ArrayList<>());
            }
        }
        DUE.is("blocks of README.md that do not end", open == null ? 0 : 1, 0);
    }

    private List<Block> blocksOf(String kind) {
        return blocks.stream().filter(b -> b.kind().equals(kind)).toList();
    }

    private Path project() {
        return room.resolve("main");
    }

    private void furnishRoom() throws IOException {
        for (String dir : new String[] {"src/main/java", "src/test/java"}) {
            Files.createDirectories(project().resolve(dir));
            try (var files = Files.list(root.resolve(dir))) {
                for (Path file : files.toList()) {
                    Files.copy(file, project().resolve(dir).resolve(file.getFileName().toString()));
                }
            }
        }
        Files.createSymbolicLink(room.resolve("shared"), root.resolve("../shared").toRealPath());
    }

    private void clearRoom() throws IOException {
        Files.walkFileTree(room, new SimpleFileVisitor<>() {
            @Override
            public FileVisitResult visitFile(Path file, BasicFileAttributes a) throws IOException {
                Files.delete(file);
                return FileVisitResult.CONTINUE;
            }

            @Override
            public FileVisitResult postVisitDirectory(Path dir, IOException e) throws IOException {
                Files.delete(dir);
                return FileVisitResult.CONTINUE;
            }
        });
    }

    /** Runs commands where the page would have them run; what they print. */
    private String run(String commands) throws IOException, InterruptedException {
        Process process = new ProcessBuilder("sh", "-e", "-c", commands)
            .directory(project().toFile()).redirectErrorStream(true).start();
        process.getOutputStream().close();
        String printed = new String(process.getInputStream().readAllBytes(), StandardCharsets.UTF_8);
        int end = process.waitFor();
        DUE.is("'" + commands.strip() + "' ended, with '" + printed.strip() + "'", end, 0);
        return printed;
    }

    /** The first program is what the first commands run and the first text is what it prints. */
    private void program() throws IOException, InterruptedException {
        Files.writeString(project().resolve("Example.java"), blocksOf("java").get(0).text());
        String printed = run(blocksOf("sh").get(0).text());
        DUE.is("the example prints '" + printed + "'", printed.equals(blocksOf("text").get(0).text()) ? 1 : 0, 1);
    }

    private void tour() throws IOException, InterruptedException {
        StringBuilder tour = new StringBuilder("final class Tour {\n  public static void main(String[] args) {\n");
        List<String> calls = new ArrayList<>();
        List<Integer> dues = new ArrayList<>();
        List<String> called = new ArrayList<>();
        List<Block> java = blocksOf("java");
        for (Block block : java.subList(1, java.size())) {
            for (int i = 0; i < block.lines().size(); i++) {
                String line = block.lines().get(i);
                Matcher m = CALL.matcher(line);
                if (m.matches()) {
                    tour.append("System.out.println(").append(m.group(1)).append(");\n");
                    calls.add("README.md:" + (block.firstLine() + i) + ": " + m.group(1));
                    dues.add(number(m.group(3)));
                    called.add(m.group(2));
                } else {
                    DUE.is("README.md:" + (block.firstLine() + i) + " has an answer", line.startsWith("x.") ? 0 : 1, 1);
                    tour.append(line).append('\n');
                }
            }
        }
        Files.writeString(project().resolve("Tour.java"), tour.append("}}\n").toString());
        String[] printed = run("javac -cp out -d out Tour.java\njava -cp out Tour").split("\n");
        DUE.is("answers of the tour", printed.length, calls.size());
        for (int i = 0; i < printed.length && i < calls.size(); i++) {
            DUE.is(calls.get(i), Integer.parseInt(printed[i]), dues.get(i));
        }
        for (Method method : face()) {
            DUE.is("the tour calls " + method.getName(), called.contains(method.getName()) ? 1 : 0, 1);
        }
    }

    private static int number(String told) {
        return switch (told) {
            case "NONE" -> BothWrite.NONE;
            case "UNKNOWN" -> BothWrite.UNKNOWN;
            case "OUTSIDE" -> BothWrite.OUTSIDE;
            case "NOT" -> BothWrite.NOT;
            case "FULL" -> BothWrite.FULL;
            default -> Integer.parseInt(told);
        };
    }

    /** .ci/run itself is what runs this test, so it is not run again. */
    private void testCommands() throws IOException, InterruptedException {
        List<Block> sh = blocksOf("sh");
        int all = 0;
        for (Block block : sh.subList(1, sh.size())) {
            if (block.text().equals(".ci/run\n")) {
                all++;
                DUE.is(".ci/run can be run", Files.isExecutable(root.resolve(".ci/run")) ? 1 : 0, 1);
            } else {
                run(block.text());
            }
        }
        DUE.is("README.md tells .ci/run", all, 1);
    }

    private static List<Method> face() {
        List<Method> face = new ArrayList<>();
        for (Method method : BothWrite.class.getDeclaredMethods()) {
            if (Modifier.isPublic(method.getModifiers())) {
                face.add(method);
            }
        }
        return face;
    }

    /** Nothing that there is is left out, nothing told that there is not. */
    private void tables() throws IOException {
        List<String> rows = new ArrayList<>();
        for (String line : page) {
            Matcher m = Pattern.compile("\\| `(\\w+)\\(([^)]*)\\)` \\|.*").matcher(line);
            if (m.matches()) {
                rows.add(m.group(1) + "/" + (m.group(2).isEmpty() ? 0 : m.group(2).split(",").length));
            }
        }
        DUE.is("rows of calls", rows.size(), face().size());
        for (Method method : face()) {
            String call = method.getName() + "/" + method.getParameterCount();
            DUE.is("a row for " + call, rows.contains(call) ? 1 : 0, 1);
        }
        try (var files = Files.list(root.resolve("src/test/java"))) {
            for (Path file : files.toList()) {
                namesInARow(file.getFileName().toString().replace(".java", ""));
            }
        }
    }

    private void namesInARow(String name) {
        boolean named = name.equals("Due");
        for (String line : page) {
            named |= line.startsWith("|") && line.contains("`" + name + "`");
        }
        DUE.is("a row that names " + name, named ? 1 : 0, 1);
    }
}
