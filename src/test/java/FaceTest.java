import java.io.IOException;
import java.lang.reflect.Constructor;
import java.lang.reflect.Field;
import java.lang.reflect.Method;
import java.lang.reflect.Modifier;
import java.nio.file.Files;
import java.nio.file.Path;
import java.util.Set;
import java.util.TreeSet;
import java.util.regex.Pattern;

/** The face of the class, what a new object answers (promise 1), and words that LANGUAGE.md rules out. */
public final class FaceTest {
    private static final String[] METHODS = {
        "int feed(long)", "int end(int)", "int trigger()", "int fault()", "int keep(int,int)", "int arm()",
        "int come(long)", "int play(int,int,int,int)", "int sample(int,int)", "int told(int)",
        "int segment(int,int)", "int at(int,int,int)", "int drop()", "int sheet(int,int,int)",
        "int lay(int,int,int)", "int mask(int,int,int,int,int,int)", "int first()", "int row(int,int,int)",
        "int reckon(int,int,int,int,int)", "long place(int,int)", "int about(int,int)", "long total(int)",
        "int turns(int,long,int)", "int eye(int,int,int,int,long,int,int)", "int bytes(int,int,int)",
        "int wires(int,int,int)", "int got(int)", "int when(int)", "int frame(int)"
    };

    public static void main(String[] args) throws IOException {
        Check check = new Check();
        face(check);
        newObject(check);
        language(check);
        check.finish("FaceTest");
    }

    private static void face(Check check) {
        Set<String> wanted = new TreeSet<>(Set.of(METHODS));
        Set<String> seen = new TreeSet<>();
        for (Method m : TraceBench.class.getDeclaredMethods()) {
            if (!Modifier.isPrivate(m.getModifiers())) {
                StringBuilder text = new StringBuilder(m.getReturnType() + " " + m.getName() + "(");
                for (Class<?> type : m.getParameterTypes()) {
                    text.append(text.charAt(text.length() - 1) == '(' ? "" : ",").append(type);
                }
                seen.add(text.append(")").toString());
            }
        }
        check.due("methods " + seen, seen.equals(wanted) ? 1 : 0, 1);
        Set<String> fields = new TreeSet<>();
        for (Field f : TraceBench.class.getDeclaredFields()) {
            if (!Modifier.isPrivate(f.getModifiers())) {
                fields.add(Modifier.toString(f.getModifiers()) + " " + f.getType() + " " + f.getName());
            }
        }
        String constant = "public static final int ";
        check.due("constants " + fields, fields.equals(new TreeSet<>(Set.of(constant + "BAD", constant + "STATE",
            constant + "FULL", constant + "NONE"))) ? 1 : 0, 1);
        Constructor<?>[] all = TraceBench.class.getDeclaredConstructors();
        check.due("constructors", all.length, 1);
        check.due("its numbers", all[0].getParameterCount(), 0);
        check.due("final", Modifier.isFinal(TraceBench.class.getModifiers()) ? 1 : 0, 1);
        check.due("BAD", TraceBench.BAD, -1);
        check.due("STATE", TraceBench.STATE, -2);
        check.due("FULL", TraceBench.FULL, -3);
        check.due("NONE", TraceBench.NONE, -4);
    }

    private static void newObject(Check check) {
        TraceBench x = new TraceBench();
        int[] told = {0, -4, -4, -4, 0, 0, 8, 8, 0, 0};
        for (int i = 0; i < told.length; i++) {
            check.due("new told(" + i + ")", x.told(i), told[i]);
        }
        check.due("new fault", x.fault(), 0);
        check.due("new arm", x.arm(), -2);
        check.due("new sample", x.sample(0, 0), 1000);
        check.due("new segment", x.segment(0, 0), -1);
        check.due("new at", x.at(0, 0, 0), 1000);
        check.due("new drop", x.drop(), -4);
        check.due("new first", x.first(), -4);
        check.due("new got", x.got(0), -1);
        check.due("new when(0)", x.when(0), -1);
        check.due("new when(-1)", x.when(-1), -4);
        check.due("new frame", x.frame(0), -4);
        for (int i = 0; i < 4; i++) {
            check.due("new about", x.about(i, 0), -1);
            check.due("new total", x.total(i), 0);
            check.due("new place", x.place(i, 0), 0);
            check.due("new lay", x.lay(i, 0, 0), -11);
        }
        check.due("new end", x.end(0), 0);
        check.due("new end", x.end(1), -1);
    }

    private static void language(Check check) throws IOException {
        String text = Files.readString(Path.of("src/main/java/TraceBench.java"));
        String code = text.replaceAll("(?s)/\\*.*?\\*/", "").replaceAll("//[^\n]*", "").replaceAll("\"[^\"]*\"", "");
        String[] ruledOut = {"throw", "throws", "try", "catch", "synchronized", "assert", "import", "package",
            "protected", "double", "float"};
        for (String word : ruledOut) {
            check.due("the word " + word, Pattern.compile("\\b" + word + "\\b").matcher(code).find() ? 1 : 0, 0);
        }
        check.due("lambdas", code.contains("->") || code.contains("::") ? 1 : 0, 0);
        check.due("names that end in Exact", Pattern.compile("Exact\\b").matcher(code).find() ? 1 : 0, 0);
        sizes(check, TraceBench.class);
        check.due("at most 12 classes", TraceBench.class.getDeclaredClasses().length < 12 ? 1 : 0, 1);
        for (Class<?> inside : TraceBench.class.getDeclaredClasses()) {
            check.due(inside + " static", Modifier.isStatic(inside.getModifiers()) ? 1 : 0, 1);
            sizes(check, inside);
            for (Method m : inside.getDeclaredMethods()) {
                for (Method ours : TraceBench.class.getDeclaredMethods()) {
                    check.due(inside + " " + m.getName(), m.getName().equals(ours.getName()) ? 1 : 0, 0);
                }
            }
        }
    }

    private static void sizes(Check check, Class<?> one) {
        int fields = 0;
        for (Field f : one.getDeclaredFields()) {
            if (Modifier.isStatic(f.getModifiers())) {
                check.due(one + " " + f.getName() + " final", Modifier.isFinal(f.getModifiers()) ? 1 : 0, 1);
            } else {
                fields++;
            }
        }
        check.due(one + " at most 20 fields", fields <= 20 ? 1 : 0, 1);
        for (Method m : one.getDeclaredMethods()) {
            check.due(m + " at most 7 parameters", m.getParameterCount() <= 7 ? 1 : 0, 1);
        }
    }
}
