import java.io.IOException;
import java.lang.reflect.Constructor;
import java.lang.reflect.Field;
import java.lang.reflect.Method;
import java.lang.reflect.Modifier;
import java.nio.file.Files;
import java.nio.file.Path;
import java.util.ArrayList;
import java.util.List;
import java.util.TreeSet;

/** The public face, and those rules of LANGUAGE.md that can be read off the class or its text. */
public final class FaceTest {

    private static final String[] FACE = {
        "int clock(int,int,int,int) SA", "int divide(int,int,int) SIA", "int corner(int,int) SA",
        "int node(int,int,int,int) SIA", "int feed(int,int) SIA", "int size(int,int) SIA", "int wire(int,int) SIA",
        "int skew(int,int) SIA", "int exception(int,int,int) SIA", "boolean sign(boolean) ", "int knock() ",
        "int ofClock(int,int) IA", "int ofNode(int,int) IA", "double load(int) I", "double takes(int,boolean) I",
        "double arrival(int,int,int,boolean,boolean) IA", "int winner(int,int) IA",
        "double left(int,int,int,boolean) IA", "double leftAt(int,int,boolean) IA", "double borrow(int,int) IA",
        "int ways(int,int) IA", "int worst(int,int) IA", "int many(int) A", "double least(boolean) ",
        "double wouldLeave(int,int) IA", "int best() ", "boolean isIdle(int) I", "long digest() "};

    private static final String[] BARRED = {"import ", "package ", "->", "::", "finally", "synchronized", "assert ",
        "native ", "volatile ", "System.out", "Thread", "hashCode", "toString", "Math.random", "Exact(",
        "getMessage", "Double", "Float.", "strictfp", "NaN", "@"};

    private static int wrong = 0;

    private static void must(boolean holds, String what) {
        if (!holds) {
            wrong++;
            System.out.println(what);
        }
    }

    private static String shape(Method m) {
        StringBuilder s = new StringBuilder(m.getReturnType().getName() + " " + m.getName() + "(");
        for (Class<?> p : m.getParameterTypes()) {
            s.append(s.charAt(s.length() - 1) == '(' ? "" : ",").append(p.getName());
        }
        s.append(") ");
        for (Class<?> e : m.getExceptionTypes()) {
            String name = e.getSimpleName();
            s.append(name.startsWith("IllegalS") ? "S" : name.startsWith("Index") ? "I" : "A");
        }
        return s.toString();
    }

    private static void face() {
        TreeSet<String> want = new TreeSet<>(List.of(FACE));
        TreeSet<String> got = new TreeSet<>();
        for (Method m : SlackHall.class.getDeclaredMethods()) {
            if (!Modifier.isPrivate(m.getModifiers())) {
                got.add(shape(m));
                must(Modifier.isPublic(m.getModifiers()), "rule 1: " + m);
            }
        }
        must(got.equals(want), "rule 1: the face is " + got);
        Constructor<?>[] makers = SlackHall.class.getDeclaredConstructors();
        must(makers.length == 1 && Modifier.isPublic(makers[0].getModifiers())
                && makers[0].getParameterCount() == 0, "rule 1: constructors");
        must(Modifier.isFinal(SlackHall.class.getModifiers()), "rule 1: final");
        for (Field f : SlackHall.class.getDeclaredFields()) {
            must(Modifier.isPrivate(f.getModifiers()), "rule 1: " + f);
        }
    }

    private static void inside() {
        List<Class<?>> all = new ArrayList<>(List.of(SlackHall.class.getDeclaredClasses()));
        must(all.size() + 1 <= 12, "rule 11: " + all.size() + " classes inside");
        all.add(SlackHall.class);
        TreeSet<String> names = new TreeSet<>();
        for (String shape : FACE) {
            names.add(shape.substring(shape.indexOf(' ') + 1, shape.indexOf('(')));
        }
        for (Class<?> c : all) {
            int own = 0;
            for (Field f : c.getDeclaredFields()) {
                boolean isStatic = Modifier.isStatic(f.getModifiers());
                own += isStatic ? 0 : 1;
                must(!isStatic || Modifier.isFinal(f.getModifiers()) && f.getType() == int.class, "rule 5: " + f);
            }
            must(own <= 20, "rule 11: fields of " + c);
            for (Method m : c.getDeclaredMethods()) {
                must(m.getParameterCount() <= 7, "rule 11: " + m);
                must(c == SlackHall.class && Modifier.isPublic(m.getModifiers()) || !names.contains(m.getName()),
                        "rule 1: " + m);
            }
        }
    }

    private static void text() throws IOException {
        String text = Files.readString(Path.of("src/main/java/SlackHall.java"));
        String code = text.replaceAll("(?s)/\\*.*?\\*/", "").replaceAll("//[^\n]*", "");
        for (String word : BARRED) {
            must(!code.contains(word), "LANGUAGE.md: the text has " + word);
        }
        String throwsLeft = code.replaceAll(
                "throw new (IllegalState|IllegalArgument|IndexOutOfBounds)Exception\\(\"[a-z ,]*\"\\);", "");
        must(!throwsLeft.contains("throw "), "rule 6: a throw of another form");
        for (char sign : text.toCharArray()) {
            must(sign < 127, "a sign over 126");
        }
    }

    public static void main(String[] args) throws IOException {
        face();
        inside();
        text();
        System.out.println(wrong == 0 ? "the face is as due" : wrong + " wrong");
        if (wrong != 0) {
            System.exit(1);
        }
    }
}
