import java.io.IOException;
import java.lang.reflect.Constructor;
import java.lang.reflect.Field;
import java.lang.reflect.Method;
import java.lang.reflect.Modifier;
import java.nio.charset.StandardCharsets;
import java.nio.file.Files;
import java.nio.file.Path;
import java.util.ArrayList;
import java.util.List;
import java.util.Set;
import java.util.TreeSet;
import java.util.regex.Matcher;
import java.util.regex.Pattern;

/** The rules of ../shared/LANGUAGE.md that can be seen from outside or in the source's words. */
public final class LanguageTest {
    private static final Path SOURCE = Path.of("src/main/java/GasNominations.java");
    private static final Path DOCUMENT = Path.of("../shared/DOC.md");
    private static final Check CHECK = new Check("language");

    private LanguageTest() {
    }

    public static void main(String[] args) throws IOException {
        face();
        classesInside();
        words();
        methodLengths();
        CHECK.finish();
    }

    /** The methods between the first fence of the document and its end, as "type name(types)". */
    private static Set<String> documentFace() throws IOException {
        Set<String> face = new TreeSet<>();
        Pattern method = Pattern.compile("public (int|long) (\\w+)\\(([^)]*)\\);");
        for (String line : Files.readAllLines(DOCUMENT)) {
            Matcher m = method.matcher(line.trim());
            if (m.matches()) {
                face.add(m.group(1) + " " + m.group(2) + "(" + m.group(3).replaceAll(" \\w+(,|$)", "$1") + ")");
            }
        }
        return face;
    }

    private static void face() throws IOException {
        Class<?> c = GasNominations.class;
        CHECK.isTrue("public and final", Modifier.isPublic(c.getModifiers()) && Modifier.isFinal(c.getModifiers()));
        Set<String> got = new TreeSet<>();
        Set<String> publicNames = new TreeSet<>();
        for (Method m : c.getDeclaredMethods()) {
            if (Modifier.isPrivate(m.getModifiers())) {
                continue;
            }
            CHECK.isTrue(m + " is public", Modifier.isPublic(m.getModifiers()));
            publicNames.add(m.getName());
            List<String> types = new ArrayList<>();
            for (Class<?> type : m.getParameterTypes()) {
                types.add(type.getName());
            }
            got.add(m.getReturnType().getName() + " " + m.getName() + "(" + String.join(", ", types) + ")");
        }
        Set<String> want = documentFace();
        CHECK.due("methods of the face", got.size(), want.size());
        CHECK.isTrue("the face is " + want + ", not " + got, want.equals(got));
        for (Constructor<?> k : c.getDeclaredConstructors()) {
            CHECK.isTrue("constructor", Modifier.isPublic(k.getModifiers()) && k.getParameterCount() == 0);
        }
        for (Field f : c.getDeclaredFields()) {
            CHECK.isTrue("field " + f, Modifier.isPrivate(f.getModifiers()) || f.getName().equals("NONE"));
        }
        for (Class<?> owner : allClasses()) {
            for (Method m : owner.getDeclaredMethods()) {
                boolean ofFace = owner == c && Modifier.isPublic(m.getModifiers());
                CHECK.isTrue(m + " bears a public name", ofFace || !publicNames.contains(m.getName()));
            }
        }
    }

    private static List<Class<?>> allClasses() {
        List<Class<?>> all = new ArrayList<>();
        all.add(GasNominations.class);
        all.addAll(List.of(GasNominations.class.getDeclaredClasses()));
        return all;
    }

    private static void classesInside() {
        CHECK.isTrue("twelve classes at most", allClasses().size() <= 12);
        for (Class<?> c : allClasses()) {
            CHECK.isTrue(c + " is static", c == GasNominations.class || Modifier.isStatic(c.getModifiers()));
            int fields = 0;
            for (Field f : c.getDeclaredFields()) {
                if (Modifier.isStatic(f.getModifiers())) {
                    CHECK.isTrue(f + " is final", Modifier.isFinal(f.getModifiers()));
                } else {
                    fields++;
                }
            }
            CHECK.isTrue(c + " has twenty fields at most", fields <= 20);
            for (Method m : c.getDeclaredMethods()) {
                CHECK.isTrue(m + " has seven parameters at most", m.getParameterCount() <= 7);
            }
        }
    }

    private static String bareSource() throws IOException {
        String text = Files.readString(SOURCE, StandardCharsets.ISO_8859_1);
        text = text.replaceAll("(?s)/\\*.*?\\*/", " ").replaceAll("//[^\n]*", " ");
        return text.replaceAll("\"[^\"\n]*\"", "\"\"");
    }

    private static void words() throws IOException {
        String text = bareSource();
        for (int i = 0; i < text.length(); i++) {
            if (text.charAt(i) > 126) {
                CHECK.isTrue("a sign above 126", false);
            }
        }
        String[] ruledOut = {"throw", "throws", "try", "catch", "synchronized", "assert", "package", "new Object",
            "hashCode", "toString", "System\\.out", "Exact", "Random", "Thread", "Map", "Object"};
        for (String word : ruledOut) {
            CHECK.isTrue("no " + word, !Pattern.compile("\\b" + word + "\\b").matcher(text).find());
        }
        CHECK.isTrue("no lambda", !text.contains("->"));
        CHECK.isTrue("no method reference", !text.contains("::"));
        Matcher imports = Pattern.compile("import ([\\w.]+);").matcher(text);
        while (imports.find()) {
            CHECK.isTrue(imports.group(1), Set.of("java.util.Arrays", "java.util.ArrayList", "java.util.List")
                .contains(imports.group(1)));
        }
    }

    private static void methodLengths() throws IOException {
        int start = -1;
        String indent = "";
        List<String> lines = Files.readAllLines(SOURCE);
        Pattern head = Pattern.compile("^( {4}| {8})(?!.*\\bclass\\b)\\w[^=;]*\\) \\{$");
        for (int i = 0; i < lines.size(); i++) {
            Matcher m = head.matcher(lines.get(i));
            if (start < 0 && m.find()) {
                start = i;
                indent = m.group(1);
            } else if (start >= 0 && lines.get(i).equals(indent + "}")) {
                CHECK.isTrue("sixty lines at most from line " + (start + 1), i - start < 60);
                start = -1;
            }
        }
    }
}
