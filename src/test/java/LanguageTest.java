import java.io.IOException;
import java.lang.reflect.Field;
import java.lang.reflect.Method;
import java.lang.reflect.Modifier;
import java.nio.file.Files;
import java.nio.file.Path;
import java.util.ArrayList;
import java.util.List;
import java.util.Set;
import java.util.TreeSet;
import java.util.regex.Matcher;
import java.util.regex.Pattern;

/** Those rules of ../shared/LANGUAGE.md that can be seen without reading the program as a whole. */
public final class LanguageTest {
    private static final String SOURCE = "src/main/java/Reelrescue.java";
    private static final Set<String> IMPORTS = Set.of("java.util.Arrays", "java.util.ArrayList", "java.util.List",
        "java.util.Iterator", "java.util.NoSuchElementException");
    private static final String[] BANNED = {
        "->", "::", "\\bcatch\\b", "\\bfinally\\b", "\\bassert\\b", "\\bsynchronized\\b", "\\bpackage\\b", "static \\{",
        "\\bprotected\\b", "Exact\\(", "\\bSystem\\.(?!arraycopy)", "\\bObject\\b", "\" \\+|\\+ \"", "@Override",
        "[^\\x00-\\x7F]", "\\bMath\\.random\\b", "\\bThread\\b"
    };

    private static final Check check = new Check();

    public static void main(String[] args) throws IOException {
        String source = Files.readString(Path.of(SOURCE));
        String code = source.replaceAll("(?s)/\\*.*?\\*/", "").replaceAll("//[^\n]*", "");
        for (String banned : BANNED) {
            Matcher found = Pattern.compile(banned).matcher(code);
            check.is(banned + " in the program", false, found.find());
        }
        Matcher imports = Pattern.compile("import ([\\w.]+);").matcher(code);
        while (imports.find()) {
            check.is("import " + imports.group(1), true, IMPORTS.contains(imports.group(1)));
        }
        methodLengths(code.split("\n"));
        classes();
        check.end();
    }

    private static void methodLengths(String[] lines) {
        int opened = 0;
        for (int i = 0; i < lines.length; i++) {
            if (lines[i].matches(" {4}(    )?[\\w<].*\\) ?(throws .*)?\\{")) {
                opened = i;
            }
            if (lines[i].matches(" {4}(    )?}")) {
                check.is("a short method at line " + opened, true, i - opened <= 60);
            }
        }
    }

    private static void classes() {
        List<Class<?>> all = new ArrayList<>(List.of(Reelrescue.class.getDeclaredClasses()));
        all.add(Reelrescue.class);
        check.is("at most 12 classes", true, all.size() <= 12);
        Set<String> face = new TreeSet<>();
        for (Method method : Reelrescue.class.getMethods()) {
            if (method.getDeclaringClass() == Reelrescue.class) {
                face.add(method.getName());
            }
        }
        for (Class<?> one : all) {
            check.is(one + " has none inside it", true, one == Reelrescue.class || one.getDeclaredClasses().length == 0);
            int fields = 0;
            for (Field field : one.getDeclaredFields()) {
                boolean isStatic = Modifier.isStatic(field.getModifiers());
                fields += isStatic ? 0 : 1;
                check.is(field + " is final", true, !isStatic || Modifier.isFinal(field.getModifiers()));
            }
            check.is("fields of " + one, true, fields <= 20);
            for (Method method : one.getDeclaredMethods()) {
                check.is("parameters of " + method, true, method.getParameterCount() <= 7);
                check.is(method + " inside bears no public name", true,
                    one == Reelrescue.class || !face.contains(method.getName()));
                check.is(method + " is not one of Object's", false,
                    Set.of("equals", "hashCode", "toString").contains(method.getName()));
            }
        }
    }
}
