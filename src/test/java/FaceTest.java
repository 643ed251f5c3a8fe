import java.io.IOException;
import java.lang.reflect.Constructor;
import java.lang.reflect.Field;
import java.lang.reflect.Method;
import java.lang.reflect.Modifier;
import java.nio.file.Files;
import java.nio.file.Path;
import java.util.HashSet;
import java.util.Set;
import java.util.TreeSet;
import java.util.regex.Matcher;
import java.util.regex.Pattern;

/** The public face is the document's and no wider, and the source keeps to what LANGUAGE.md leaves. */
public final class FaceTest {
    private static final String[] METHODS = {
        "row/3", "set/3", "copy/5", "drop/1", "feed/1", "yard/0", "fault/0", "minutes/1", "turn/1", "move/2",
        "coal/2", "water/0", "serve/2", "undo/0", "thing/2", "eater/2", "ember/2", "heat/1", "ahead/3",
        "heatAhead/2", "ready/1", "where/1", "inTime/2", "flips/3", "start/3", "fuelFor/2", "servable/2",
        "hand/2", "judged/3", "fuel/0", "image/1", "restore/1", "kind/1", "as/2", "ask/2", "trace/1",
        "count/1", "status/0"
    };
    private static final String[] FORBIDDEN_WORDS = {
        "throw", "throws", "try", "catch", "synchronized", "assert", "import", "package", "protected", "finally",
        "volatile", "native", "Object", "hashCode", "System.exit", "Exact"
    };
    private static int wrong = 0;

    private static void hold(boolean holds, String what) {
        if (!holds) {
            wrong++;
            System.out.println("does not hold: " + what);
        }
    }

    private static void checkMembers() {
        hold(Modifier.isPublic(CoalGrate.class.getModifiers()), "the class is public");
        hold(Modifier.isFinal(CoalGrate.class.getModifiers()), "the class is final");
        Set<String> open = new TreeSet<>();
        Set<String> publicNames = new HashSet<>();
        Set<String> privateNames = new HashSet<>();
        for (Method m : CoalGrate.class.getDeclaredMethods()) {
            if (Modifier.isPrivate(m.getModifiers())) {
                privateNames.add(m.getName());
                continue;
            }
            publicNames.add(m.getName());
            open.add(m.getName() + "/" + m.getParameterCount());
            hold(Modifier.isPublic(m.getModifiers()) && !Modifier.isStatic(m.getModifiers()), m + " is public, not static");
            hold(m.getReturnType() == int.class, m + " answers an int");
            for (Class<?> p : m.getParameterTypes()) {
                hold(p == int.class, m + " takes ints");
            }
        }
        hold(open.equals(new TreeSet<>(Set.of(METHODS))), "the methods are the document's, not " + open);
        for (Class<?> inside : CoalGrate.class.getDeclaredClasses()) {
            hold(Modifier.isStatic(inside.getModifiers()), inside + " is static");
            hold(!Modifier.isPublic(inside.getModifiers()), inside + " is not public");
            for (Method m : inside.getDeclaredMethods()) {
                privateNames.add(m.getName());
            }
            checkFields(inside);
        }
        privateNames.retainAll(publicNames);
        hold(privateNames.isEmpty(), "no inner method has a public one's name: " + privateNames);
        hold(CoalGrate.class.getDeclaredClasses().length <= 12, "at most some twelve classes");
        Constructor<?>[] made = CoalGrate.class.getDeclaredConstructors();
        hold(made.length == 1 && Modifier.isPublic(made[0].getModifiers()) && made[0].getParameterCount() == 0,
            "one public constructor without arguments");
        checkFields(CoalGrate.class);
    }

    private static void checkFields(Class<?> c) {
        int own = 0;
        for (Field f : c.getDeclaredFields()) {
            boolean constant = Modifier.isStatic(f.getModifiers());
            hold(!constant || Modifier.isFinal(f.getModifiers()), f + " is final");
            own += constant ? 0 : 1;
            if (c == CoalGrate.class && !Modifier.isPrivate(f.getModifiers())) {
                hold(Set.of("NONE", "BAD", "STATE", "FULL").contains(f.getName()), f + " is a constant of the face");
            }
        }
        hold(own <= 20, c + " has at most twenty fields");
    }

    private static void checkSource() throws IOException {
        String code = Files.readString(Path.of("src/main/java/CoalGrate.java"));
        code = code.replaceAll("(?s)/\\*.*?\\*/", "").replaceAll("//[^\n]*", "");
        for (String word : FORBIDDEN_WORDS) {
            Matcher m = Pattern.compile("\\b" + Pattern.quote(word) + "\\b").matcher(code);
            hold(!m.find(), "the source has no " + word);
        }
        hold(!code.contains("->") && !code.contains("::") && !code.contains("@"), "no lambda, reference, annotation");
        Matcher method = Pattern.compile("\n( +)[^\n;=]*\\) \\{\n(?s:.*?)\n\\1\\}").matcher(code);
        while (method.find()) {
            hold(method.group().split("\n").length <= 62, "a method is short: " + method.group().split("\n")[1]);
        }
    }

    public static void main(String[] args) throws IOException {
        checkMembers();
        checkSource();
        hold(CoalGrate.NONE == -1000000 && CoalGrate.BAD == -1000001, "NONE and BAD");
        hold(CoalGrate.STATE == -1000002 && CoalGrate.FULL == -1000003, "STATE and FULL");
        System.out.println(wrong == 0 ? "the face is as told" : wrong + " things do not hold");
        if (wrong != 0) {
            System.exit(1);
        }
    }
}
