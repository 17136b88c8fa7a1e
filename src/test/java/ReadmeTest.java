import java.net.URL;
import java.net.URLClassLoader;
import java.nio.file.Files;
import java.nio.file.Path;
import java.util.ArrayList;
import java.util.List;
import java.util.regex.Matcher;
import java.util.regex.Pattern;
import javax.tools.JavaCompiler;
import javax.tools.ToolProvider;

/** The calls that README.md shows are compiled and called: each answers what stands first in its comment. */
public final class ReadmeTest {
    private static final Pattern CALL = Pattern.compile("(stone\\.[^;]*);\\s*// (-?\\d+|true|false|throws)(:.*|)");
    private static final String[] SHOWN = {
        "sign", "end", "mill", "row", "hole", "count", "-1", "-2", "false", "throws",
    };

    public static void main(String[] args) throws Exception {
        List<String> shown = new ArrayList<>();
        String program = programOf(Files.readAllLines(Path.of("README.md")), shown);
        Path folder = Files.createTempDirectory("readme");
        Path file = folder.resolve("Readme.java");
        Files.writeString(file, program);
        List<String> missing = new ArrayList<>(List.of(SHOWN));
        missing.removeAll(shown);
        boolean good = missing.isEmpty() && isCompiled(folder, file) && callAll(folder) == 0;
        Files.deleteIfExists(folder.resolve("Readme.class"));
        Files.deleteIfExists(file);
        Files.deleteIfExists(folder);
        System.out.println(good ? "what README.md shows is so" : "README.md is not as due; it lacks " + missing);
        if (!good) {
            System.exit(1);
        }
    }

    private static String programOf(List<String> lines, List<String> shown) {
        StringBuilder text = new StringBuilder("public final class Readme {\n    public static int wrong() {\n");
        text.append("        int wrong = 0;\n        Object got;\n");
        boolean isJava = false;
        for (int i = 0; i < lines.size(); i++) {
            String line = lines.get(i);
            if (line.startsWith("```")) {
                isJava = line.equals("```java");
            } else if (isJava) {
                text.append(checkOf(line, i + 1, shown));
            }
        }
        return text.append("        return wrong;\n    }\n}\n").toString();
    }

    private static String checkOf(String line, int number, List<String> shown) {
        Matcher call = CALL.matcher(line);
        if (!call.matches()) {
            // A line that is no such call has to make the object: else javac or the missing answer tells it.
            return line.startsWith("StoneThatShakes stone = ") ? line + "\n" : "line " + number + " is no call\n";
        }
        shown.add(call.group(1).replaceAll("stone\\.(\\w+).*", "$1"));
        shown.add(call.group(2));
        return "        try { got = " + call.group(1) + "; }"
                + " catch (java.util.NoSuchElementException e) { got = \"throws\"; }\n"
                + "        if (!String.valueOf(got).equals(\"" + call.group(2) + "\")) {\n"
                + "            wrong++; System.out.println(\"README.md, line " + number + ": answered \" + got);\n"
                + "        }\n";
    }

    private static boolean isCompiled(Path folder, Path file) {
        JavaCompiler compiler = ToolProvider.getSystemJavaCompiler();
        String path = System.getProperty("java.class.path");
        return compiler.run(null, null, null, "-cp", path, "-d", folder.toString(), file.toString()) == 0;
    }

    private static int callAll(Path folder) throws Exception {
        try (URLClassLoader loader = new URLClassLoader(new URL[] {folder.toUri().toURL()})) {
            return (int) loader.loadClass("Readme").getMethod("wrong").invoke(null);
        }
    }
}
