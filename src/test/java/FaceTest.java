import java.io.IOException;
import java.lang.reflect.Field;
import java.lang.reflect.Method;
import java.lang.reflect.Modifier;
import java.nio.file.Files;
import java.nio.file.Path;
import java.util.ArrayList;
import java.util.List;
import java.util.Random;
import java.util.TreeSet;

/** The document's face, some of LANGUAGE.md's rules, and that no call throws. */
public final class FaceTest {
    private static final String FACE = "feed int int int int int int|end int int|store int|fault int int|read int int int int int int"
            + "|turn int int int int|undo boolean|redo boolean|measure int int int|rate int int|value int int|archive int int int"
            + "|row int int int int|rowAt int int int|over int int int int int int|share int int int int|smooth int int int int int"
            + "|alike int int int int|left int int|gap int int int int|total long int int int int|rise int int int|best int int int"
            + "|forecast int int int|place int int int int|told int int int int|odd int int int|alarms int int int int|ahead int int int"
            + "|show int int int int|shows int int int int|would int int int int int|fits int int int|law int|image int int|back int int"
            + "|about int int";

    public static void main(String[] args) throws Exception {
        constants();
        methods();
        insides();
        words();
        noThrow();
        Due.finish();
    }

    private static void constants() throws Exception {
        Due.due("NONE", RoundRows.class.getField("NONE").getInt(null), -1);
        Due.due("UNKNOWN", RoundRows.class.getField("UNKNOWN").getInt(null), -2147483648);
        Due.due("public fields", RoundRows.class.getFields().length, 2);
        Due.due("constructors", RoundRows.class.getDeclaredConstructors().length, 1);
        Due.due("its parameters", RoundRows.class.getConstructor().getParameterCount(), 0);
        Due.due("final", Modifier.isFinal(RoundRows.class.getModifiers()), true);
    }

    private static void methods() {
        TreeSet<String> want = new TreeSet<>(List.of(FACE.split("\\|")));
        TreeSet<String> got = new TreeSet<>();
        for (Method m : RoundRows.class.getDeclaredMethods()) {
            if (!Modifier.isPrivate(m.getModifiers())) {
                StringBuilder one = new StringBuilder(m.getName()).append(' ').append(m.getReturnType().getName());
                for (Class<?> p : m.getParameterTypes()) {
                    one.append(' ').append(p.getName());
                }
                got.add(one.toString());
            }
        }
        Due.due("the face " + got, got.equals(want), true);
        for (Field f : RoundRows.class.getDeclaredFields()) {
            boolean isPublic = f.getName().equals("NONE") || f.getName().equals("UNKNOWN");
            Due.due("field " + f.getName(), Modifier.isPrivate(f.getModifiers()), !isPublic);
        }
    }

    private static void insides() {
        List<String> face = new ArrayList<>();
        for (String one : FACE.split("\\|")) {
            face.add(one.substring(0, one.indexOf(' ')));
        }
        List<Class<?>> all = new ArrayList<>(List.of(RoundRows.class.getDeclaredClasses()));
        for (Class<?> c : all) {
            Due.due("static " + c, Modifier.isStatic(c.getModifiers()), true);
            Due.due("private " + c, Modifier.isPrivate(c.getModifiers()), true);
        }
        all.add(RoundRows.class);
        Due.due("classes at most twelve", all.size() <= 12, true);
        for (Class<?> c : all) {
            int fields = 0;
            for (Field f : c.getDeclaredFields()) {
                fields += Modifier.isStatic(f.getModifiers()) ? 0 : 1;
                Due.due("static is final " + f, !Modifier.isStatic(f.getModifiers()) || Modifier.isFinal(f.getModifiers()), true);
            }
            Due.due("fields of " + c, fields <= 20, true);
            for (Method m : c.getDeclaredMethods()) {
                Due.due("parameters of " + m, m.getParameterCount() <= 7, true);
                Due.due("name of " + m, face.contains(m.getName()), c == RoundRows.class && Modifier.isPublic(m.getModifiers()));
            }
        }
    }

    /** Words that LANGUAGE.md keeps out, in the code without its comments and texts. */
    private static void words() throws IOException {
        String code = Files.readString(Path.of("src/main/java/RoundRows.java"));
        code = code.replaceAll("(?s)/\\*.*?\\*/", " ").replaceAll("//[^\n]*", " ");
        Due.due("no + of texts", code.matches("(?s).*(\"\\s*\\+|\\+\\s*\").*"), false);
        code = code.replaceAll("\"[^\"\n]*\"", "\"\"").replaceAll("'.'", "' '");
        for (String word : new String[] {"throw", "throws", "try", "catch", "assert", "synchronized", "import", "package", "->", "::", "Exact(",
            "System.out", "@", "protected", "double", "float"}) {
            Due.due("no " + word, code.matches("(?s).*(?<![a-zA-Z])" + word.replace("(", "\\(").replace(".", "\\.") + "(?![a-zA-Z]).*"), false);
        }
        for (char c : code.toCharArray()) {
            Due.due("sign " + (int) c, c < 128, true);
        }
    }

    private static int any(Random random) {
        switch (random.nextInt(6)) {
            case 0:
                return random.nextInt();
            case 1:
                return Integer.MAX_VALUE - random.nextInt(3);
            case 2:
                return Integer.MIN_VALUE + random.nextInt(3);
            case 3:
                return random.nextInt(1100) - 50;
            default:
                return random.nextInt(6) - 1;
        }
    }

    /** Any numbers, in any state: a call that throws ends this test. */
    private static void noThrow() throws Exception {
        Random random = new Random(5);
        List<Method> methods = new ArrayList<>();
        for (Method m : RoundRows.class.getDeclaredMethods()) {
            if (Modifier.isPublic(m.getModifiers())) {
                methods.add(m);
            }
        }
        methods.sort((a, b) -> a.getName().compareTo(b.getName()));
        for (int run = 0; run < 200; run++) {
            RoundRows x = run % 4 == 0 ? new RoundRows() : Due.stored("step 3; measure a gauge silence 100; measure b amount silence 1000;"
                    + "measure c counter 4 20 silence 50; archive mean 1 by 30 share 0; archive least 2 by 9 share 9;"
                    + "forecast a season 3 by 8 8 8 band 1; forecast c season 24 by 16 16 16 band 2; show s = a / b or c; show t = s * s;");
            for (int k = 0; k < 1000; k++) {
                Method m = methods.get(random.nextInt(methods.size()));
                if (m.getName().equals("store") && !(run % 16 == 0)) {
                    x.read(1 + random.nextInt(9), random.nextInt(50), random.nextInt(50), random.nextInt(50), 0);
                    continue;
                }
                Object[] values = new Object[m.getParameterCount()];
                for (int i = 0; i < values.length; i++) {
                    values[i] = any(random);
                }
                m.invoke(x, values);
            }
            Due.due("law", x.law(), 0);
        }
    }
}
