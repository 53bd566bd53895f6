import java.lang.reflect.Constructor;
import java.lang.reflect.Field;
import java.lang.reflect.Method;
import java.lang.reflect.Modifier;
import java.util.Arrays;
import java.util.Set;
import java.util.TreeSet;

/** The public face is that of the document, and nothing else of the class can be seen. */
public final class FaceTest {
    private static final String[] FACE = {
        "int reel(int,int,int,int,int)", "int frame(int,int,int,int)", "int splice(int,int)", "int cold(int,boolean)",
        "int copy(int)", "int ofReel(int,int)", "int tolerance(int)", "int align(int,int)", "int pairOf(int,int,int)",
        "float alike(int,int,int,int)", "int version(int,int)", "int shot(int,int,int)", "int proof(int)",
        "int speed(int,int,int)", "int ofVersion(int,int)", "int scrap(int,int)", "int tint(int,int)",
        "int right(int,int,int,int,int)", "boolean allow(int,int,boolean)", "boolean mayShow(int,int,int)",
        "int edition(int)", "boolean protect(int,boolean)", "int limit(int)", "int dirt(int)",
        "int scratch(int,int,int,int)", "int flicker()", "int takeBack(int)", "int ofFrame(int,int)", "long seen(int)",
        "long sum(boolean)", "int pass(int)"
    };

    public static void main(String[] args) {
        Check check = new Check();
        Set<String> open = new TreeSet<>();
        Set<String> openNames = new TreeSet<>();
        Set<String> hiddenNames = new TreeSet<>();
        for (Method method : Reelrescue.class.getDeclaredMethods()) {
            if (Modifier.isPrivate(method.getModifiers())) {
                hiddenNames.add(method.getName());
            } else {
                open.add(told(method));
                openNames.add(method.getName());
            }
        }
        Set<String> due = new TreeSet<>(Arrays.asList(FACE));
        if (!open.equals(due)) {
            check.tell("the face is " + open + ", due is " + due);
        }
        hiddenNames.retainAll(openNames);
        if (!hiddenNames.isEmpty()) {
            check.tell("private methods bear public names: " + hiddenNames);
        }
        constants(check);
        check.is("constructors", 1, Reelrescue.class.getDeclaredConstructors().length);
        for (Constructor<?> constructor : Reelrescue.class.getDeclaredConstructors()) {
            check.is("public constructor", true, Modifier.isPublic(constructor.getModifiers()));
            check.is("arguments of the constructor", 0, constructor.getParameterCount());
        }
        check.is("public final class", Modifier.PUBLIC | Modifier.FINAL, Reelrescue.class.getModifiers());
        check.end();
    }

    private static void constants(Check check) {
        Set<String> open = new TreeSet<>();
        for (Field field : Reelrescue.class.getDeclaredFields()) {
            if (!Modifier.isPrivate(field.getModifiers())) {
                open.add(field.getName());
            }
        }
        if (!open.equals(new TreeSet<>(Arrays.asList("NONE", "NITRATE", "ACETATE")))) {
            check.tell("the constants are " + open);
        }
        check.is("NONE", -1, Reelrescue.NONE);
        check.is("NITRATE", 0, Reelrescue.NITRATE);
        check.is("ACETATE", 1, Reelrescue.ACETATE);
    }

    private static String told(Method method) {
        StringBuilder told = new StringBuilder(method.getReturnType() + " " + method.getName() + "(");
        for (Class<?> type : method.getParameterTypes()) {
            told.append(told.charAt(told.length() - 1) == '(' ? "" : ",").append(type);
        }
        return told.append(')').toString();
    }
}
