import java.net.URL;
import java.net.URLClassLoader;
import java.nio.file.Files;
import java.nio.file.Path;
import java.util.regex.Matcher;
import java.util.regex.Pattern;
import javax.tools.ToolProvider;

/** That README.md's calls answer what stands behind them, and that it names each call and each test. */
public final class ReadmeTest {
    private static final Pattern BLOCK = Pattern.compile("```java\n(.*?)```", Pattern.DOTALL);
    private static final Pattern CALL = Pattern.compile("(x\\..*); +// (-?[0-9]+|true|false)\\b.*");
    private static int wrong = 0;

    public static void main(String[] args) throws Exception {
        String text = Files.readString(Path.of("README.md"));
        names(text);
        examples(text);
        System.out.println(wrong == 0 ? "README.md tells what is so" : wrong + " wrong in README.md");
        if (wrong > 0) System.exit(1);
    }

    private static void fault(String what) {
        wrong++;
        System.out.println(what);
    }

    private static void names(String text) throws Exception {
        String table = text.substring(text.indexOf("| kind"), text.indexOf("\n\n", text.indexOf("| kind")));
        for (java.lang.reflect.Method m : FedClocks.class.getDeclaredMethods())
            if (java.lang.reflect.Modifier.isPublic(m.getModifiers()) && !table.contains("`" + m.getName() + "`"))
                fault("it does not name " + m.getName());
        try (java.util.stream.Stream<Path> tests = Files.list(Path.of("src/test/java"))) {
            for (Path test : tests.toList()) {
                String name = test.getFileName().toString().replace(".java", "");
                if (name.endsWith("Test") && !text.contains("`" + name + "`")) fault("it does not name " + name);
            }
        }
    }

    /** The methods of its blocks as they stand, its calls each with the answer that is due. */
    private static void examples(String text) throws Exception {
        StringBuilder methods = new StringBuilder();
        StringBuilder calls = new StringBuilder();
        int answers = 0;
        for (Matcher m = BLOCK.matcher(text); m.find();) {
            if (m.group(1).startsWith("static ")) {
                methods.append(m.group(1));
                continue;
            }
            for (String line : m.group(1).split("\n")) {
                Matcher call = CALL.matcher(line);
                if (call.matches()) {
                    answers++;
                    calls.append("due(\"" + call.group(1) + "\", \"\" + " + call.group(1) + ", \"" + call.group(2) + "\");\n");
                } else {
                    if (line.startsWith("x.")) fault("no answer stands behind " + line);
                    calls.append(line).append('\n');
                }
            }
        }
        if (answers == 0) fault("it shows no call");
        run("public final class Shown {\n    public static int wrong = 0;\n"
            + "static void due(String call, String got, String told) {\n"
            + "if (!got.equals(told)) { wrong++; System.out.println(call + \" answers \" + got + \", README.md says \" + told); }\n}\n"
            + methods + "public static int all() {\n" + calls + "return wrong;\n}\n}\n");
    }

    private static void run(String program) throws Exception {
        Path folder = Files.createTempDirectory("shown");
        Path source = folder.resolve("Shown.java");
        Files.writeString(source, program);
        int failed = ToolProvider.getSystemJavaCompiler().run(null, null, null, "-d", folder.toString(),
            "-cp", System.getProperty("java.class.path"), "-sourcepath", folder.toString(), source.toString());
        if (failed != 0) {
            fault("its calls do not compile");
        } else {
            try (URLClassLoader loader = new URLClassLoader(new URL[] {folder.toUri().toURL()})) {
                wrong += (int) loader.loadClass("Shown").getMethod("all").invoke(null);
            }
        }
        for (String file : new String[] {"Shown.class", "Shown.java"}) Files.deleteIfExists(folder.resolve(file));
        Files.deleteIfExists(folder);
    }
}
