import java.io.IOException;
import java.net.URL;
import java.net.URLClassLoader;
import java.nio.file.Files;
import java.nio.file.Path;
import java.util.ArrayList;
import java.util.Comparator;
import java.util.List;
import java.util.regex.Matcher;
import java.util.regex.Pattern;
import java.util.stream.Stream;
import javax.tools.JavaCompiler;
import javax.tools.ToolProvider;

/** README.md's lines of Java, compiled as they stand there, answer what is written behind them. */
public final class ReadmeTest {
    private static final Pattern ANSWERED = Pattern.compile("^(?:int (\\w+) = )?(\\w.*\\));\\s*// (-?\\w+).*$");
    private static final List<String> NAMES = new ArrayList<>();

    private ReadmeTest() {
    }

    public static void main(String[] args) throws IOException, ReflectiveOperationException {
        Path folder = Files.createTempDirectory("readme");
        int wrong = 0;
        try {
            wrong = run(folder, program(Files.readAllLines(Path.of("README.md"))));
        } finally {
            remove(folder);
        }
        boolean all = NAMES.containsAll(List.of("station", "sight", "span", "gap", "days", "closed", "blamed", "reach",
            "mark", "when", "between", "lamps", "count", "unit", "run", "tools", "fault", "meeting", "there", "fits",
            "ways", "chance", "seek", "detour", "flow", "mouth", "lime", "repair", "table", "narrow", "about"));
        if (!all) {
            System.out.println("ReadmeTest: a call isn't shown");
        }
        System.out.println("ReadmeTest: " + NAMES.size() + " lines, " + wrong + " wrong");
        System.exit(wrong == 0 && all ? 0 : 1);
    }

    /** A block of functions stands in the class; others stand in main, each that begins a book in a block of its own. */
    private static String program(List<String> lines) {
        StringBuilder functions = new StringBuilder();
        StringBuilder main = new StringBuilder("{\n");
        StringBuilder block = null;
        for (String line : lines) {
            if (line.equals("```java")) {
                block = new StringBuilder();
            } else if (line.equals("```") && block != null) {
                if (block.toString().startsWith("static ")) {
                    functions.append(block);
                } else {
                    boolean begins = block.toString().startsWith("TunnelBook book");
                    main.append(begins ? "}\n{\n" : "").append(block);
                }
                block = null;
            } else if (block != null) {
                block.append(asked(line)).append("\n");
            }
        }
        return "public final class Readme {\n public static int wrong = 0;\n"
            + "static void due(String line, Object got, Object want) {\n"
            + "if (!String.valueOf(got).equals(String.valueOf(want))) { wrong++;\n"
            + "System.out.println(\"README.md: \" + line + \" answers \" + got); } }\n"
            + functions + "public static void all() {\n" + main + "}\n}\n}\n";
    }

    private static String asked(String line) {
        Matcher found = ANSWERED.matcher(line);
        if (!found.matches()) {
            return line;
        }
        NAMES.add(found.group(2).replaceAll("^book\\.|\\(.*$", ""));
        String want = found.group(3).equals("NONE") || found.group(3).equals("FREE")
            ? "TunnelBook." + found.group(3) : found.group(3);
        String shown = "\"" + line.replace("\\", "\\\\").replace("\"", "\\\"") + "\"";
        if (found.group(1) == null) {
            return "due(" + shown + ", " + found.group(2) + ", " + want + ");";
        }
        return "int " + found.group(1) + " = " + found.group(2) + "; due(" + shown + ", " + found.group(1) + ", " + want
            + ");";
    }

    private static int run(Path folder, String program) throws IOException, ReflectiveOperationException {
        Path file = folder.resolve("Readme.java");
        Files.writeString(file, program);
        JavaCompiler compiler = ToolProvider.getSystemJavaCompiler();
        String[] words = {"-nowarn", "-proc:none", "-cp", System.getProperty("java.class.path"), "-d", folder.toString(),
            file.toString()};
        if (compiler.run(null, null, null, words) != 0) {
            System.out.println("ReadmeTest: the lines don't compile");
            return 1;
        }
        try (URLClassLoader loader = new URLClassLoader(new URL[] {folder.toUri().toURL()})) {
            Class<?> made = loader.loadClass("Readme");
            made.getMethod("all").invoke(null);
            return made.getField("wrong").getInt(null);
        }
    }

    private static void remove(Path folder) throws IOException {
        try (Stream<Path> files = Files.walk(folder)) {
            for (Path file : files.sorted(Comparator.reverseOrder()).toList()) {
                Files.delete(file);
            }
        }
    }
}
