import java.lang.reflect.Constructor;
import java.lang.reflect.Field;
import java.lang.reflect.Method;
import java.lang.reflect.Modifier;
import java.nio.file.Files;
import java.nio.file.Path;
import java.util.ArrayList;
import java.util.Arrays;
import java.util.List;
import java.util.Set;
import java.util.TreeSet;
import java.util.regex.Matcher;
import java.util.regex.Pattern;
import java.util.stream.Stream;

/** That no word of the Terms and of the promises is without a test that names its sentence; and the class's face. */
public final class DocumentTest {
    private static final Pattern NAMED = Pattern.compile("Say\\.in(Terms|Promise)\\((\\d+), \"((?:[^\"\\\\]|\\\\.)*)\"\\)");
    private static int wrong = 0;

    public static void main(String[] args) throws Exception {
        List<String[]> named = named();
        for (int n = 1; n <= 4; n++) covered("Terms", n, Say.term(n), named);
        for (int n = 1; n <= 45; n++) covered("Promise", n, Say.promise(n), named);
        face();
        System.out.println(named.size() + " sentences are named by tests, " + wrong + " faults");
        if (wrong > 0) System.exit(1);
    }

    private static void fault(String what) {
        wrong++;
        System.out.println(what);
    }

    private static List<String[]> named() throws Exception {
        List<String[]> all = new ArrayList<>();
        try (Stream<Path> files = Files.list(Path.of("src/test/java"))) {
            for (Path file : (Iterable<Path>) files.filter(f -> f.toString().endsWith("Test.java")).sorted()::iterator) {
                Matcher m = NAMED.matcher(Files.readString(file));
                while (m.find()) all.add(new String[] {m.group(1), m.group(2), m.group(3)});
            }
        }
        return all;
    }

    private static void covered(String where, int n, String text, List<String[]> named) {
        boolean[] has = new boolean[text.length()];
        for (String[] one : named) {
            if (!one[0].equals(where) || Integer.parseInt(one[1]) != n) continue;
            int at = text.indexOf(one[2]);
            if (at < 0) fault(where + " " + n + " does not say: " + one[2]);
            for (; at >= 0; at = text.indexOf(one[2], at + 1)) Arrays.fill(has, at, at + one[2].length(), true);
        }
        StringBuilder rest = new StringBuilder();
        boolean word = false;
        for (int i = 0; i < text.length(); i++) {
            if (has[i]) {
                if (rest.length() > 0 && rest.charAt(rest.length() - 1) != '|') rest.append('|');
            } else {
                rest.append(text.charAt(i));
                word |= Character.isLetterOrDigit(text.charAt(i));
            }
        }
        if (word) fault(where + " " + n + ": no test names " + rest);
    }

    /** The face is that of the document, and no other member can be seen. */
    private static void face() throws Exception {
        String document = Files.readString(Path.of("../shared/DOC.md"));
        int from = document.indexOf("public final class FedClocks {");
        String block = document.substring(from, document.indexOf("```", from));
        Set<String> due = new TreeSet<>();
        Matcher m = Pattern.compile("public ([^;{]*);").matcher(block);
        while (m.find()) due.add(m.group(1).replaceAll(" (\\w+)([,)])", "$2"));
        Set<String> got = new TreeSet<>();
        for (Field f : FedClocks.class.getDeclaredFields()) {
            if (Modifier.isPrivate(f.getModifiers())) continue;
            got.add("static final int " + f.getName() + " = " + f.getInt(null));
        }
        for (Constructor<?> c : FedClocks.class.getDeclaredConstructors()) got.add("FedClocks" + types(c.getParameterTypes()));
        for (Method f : FedClocks.class.getDeclaredMethods()) {
            if (Modifier.isPrivate(f.getModifiers())) continue;
            String thrown = f.getExceptionTypes().length == 0 ? "" : " throws " + f.getExceptionTypes()[0].getSimpleName();
            got.add(f.getReturnType() + " " + f.getName() + types(f.getParameterTypes()) + thrown);
        }
        due.remove("final class FedClocks {");
        if (!got.equals(due)) fault("the face is " + got + "\nbut the document's is " + due);
        if (!Modifier.isFinal(FedClocks.class.getModifiers())) fault("the class is not final");
    }

    private static String types(Class<?>[] types) {
        StringBuilder b = new StringBuilder("(");
        for (Class<?> t : types) b.append(b.length() > 1 ? ", " : "").append(t.getSimpleName());
        return b.append(")").toString();
    }
}
