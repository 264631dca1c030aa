import java.io.IOException;
import java.lang.reflect.Method;
import java.net.URL;
import java.net.URLClassLoader;
import java.nio.file.Files;
import java.nio.file.Path;
import java.util.ArrayList;
import java.util.List;
import java.util.regex.Matcher;
import java.util.regex.Pattern;
import javax.tools.ToolProvider;

/** The example in README.md is compiled and run, and its calls answer what stands behind them. */
public final class ReadmeTest {
    private static final Pattern CALL = Pattern.compile(
            "(company\\..*); *// (throws (\\w+)|(-?\\d+|\"[^\"]*\"|true|false)).*");

    public static void main(String[] args) throws Exception {
        Check check = new Check("ReadmeTest");
        List<String> calls = new ArrayList<>();
        List<String> due = new ArrayList<>();
        String example = example(Files.readString(Path.of("README.md")), calls, due);
        check.due("calls with an answer are found", true, () -> calls.size() > 10);
        Object[] answers = answers(example);
        for (int k = 0; k < calls.size(); k++) {
            Object answer = answers[k];
            check.due(calls.get(k), due.get(k), () -> answer);
        }
        check.end();
    }

    /** The lines of the example, those with a call and its answer turned into such that keep the answer. */
    private static String example(String readme, List<String> calls, List<String> due) {
        int start = readme.indexOf("```java\n") + 8;
        StringBuilder code = new StringBuilder();
        for (String line : readme.substring(start, readme.indexOf("```", start)).split("\n")) {
            Matcher call = CALL.matcher(line);
            if (line.startsWith("company.") && call.matches()) {
                calls.add(call.group(1));
                due.add(call.group(3) != null ? "throws." + call.group(3) : call.group(4).replace("\"", ""));
                code.append("keep(() -> ").append(call.group(1)).append(");\n");
            } else if (line.startsWith("company.")) {
                throw new IllegalStateException("a call without an answer: " + line);
            } else {
                code.append(line).append('\n');
            }
        }
        return code.toString();
    }

    private static Object[] answers(String example) throws Exception {
        Path at = Files.createTempDirectory("readme");
        Path file = at.resolve("Example.java");
        try {
            Files.writeString(file, source(example));
            String path = System.getProperty("java.class.path");
            int code = ToolProvider.getSystemJavaCompiler().run(null, null, null, "-cp", path, "-d", at.toString(),
                    file.toString());
            if (code != 0) throw new IllegalStateException("the example does not compile");
            try (URLClassLoader loader = new URLClassLoader(new URL[] {at.toUri().toURL()})) {
                Method run = loader.loadClass("Example").getMethod("answers");
                return (Object[]) run.invoke(null);
            }
        } finally {
            remove(at);
        }
    }

    private static String source(String example) {
        return "public final class Example {\n"
                + "static final java.util.List<String> kept = new java.util.ArrayList<>();\n"
                + "interface Call { Object run(); }\n"
                + "static void keep(Call call) {\n"
                + "try { kept.add(call.run().toString()); }\n"
                + "catch (RuntimeException e) { kept.add(\"throws.\" + e.getClass().getSimpleName()); }\n"
                + "}\n"
                + "public static Object[] answers() {\n" + example + "return kept.toArray();\n}\n}\n";
    }

    private static void remove(Path at) throws IOException {
        try (java.util.stream.Stream<Path> files = Files.list(at)) {
            for (Path file : (Iterable<Path>) files::iterator) Files.delete(file);
        }
        Files.delete(at);
    }
}
