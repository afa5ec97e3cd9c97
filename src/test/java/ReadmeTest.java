import java.io.IOException;
import java.lang.reflect.Method;
import java.lang.reflect.Modifier;
import java.nio.file.Files;
import java.nio.file.Path;
import java.util.ArrayList;
import java.util.List;
import java.util.TreeSet;

/** README.md: its tables tell the public face, call by call, and its example answers what it says. */
public final class ReadmeTest {

    private static int wrong = 0;

    private static void must(boolean holds, String what) {
        if (!holds) {
            wrong++;
            System.out.println(what);
        }
    }

    /** The lines of the example stand here as they stand on the page; exampleIsRunHere() sees to that. */
    private static void example() {
        SlackHall chip = new SlackHall();
        int clock = chip.clock(10, 4, 2, 0);
        int in = chip.node(0, 0, 0, clock);
        int buf = chip.node(1, in, 0, 0);
        int flop = chip.node(6, 0, 0, clock);
        chip.feed(flop, buf);
        double late = chip.leftAt(flop, 0, true);
        must(late == 7.125, "the example's leftAt answers " + late);
        double would = chip.wouldLeave(buf, 4);
        must(would == 8.15625, "the example's wouldLeave answers " + would);
        int change = chip.best();
        must(change == 6, "the example's best answers " + change);
        must(change / 4 == buf && chip.ofNode(buf, 4) == 1, "the example's size is another one");
        chip.size(change / 4, 1 << change % 4);
        must(chip.least(true) == would, "the example's size leaves " + chip.least(true));
        chip.sign(true);
        must(isSigned(chip), "the example's chip can still be told");
    }

    private static boolean isSigned(SlackHall chip) {
        try {
            chip.size(0, 1);
            return false;
        } catch (IllegalStateException e) {
            return true;
        }
    }

    private static void exampleIsRunHere(String page) throws IOException {
        List<String> here = new ArrayList<>();
        for (String line : Files.readAllLines(Path.of("src/test/java/ReadmeTest.java"))) {
            here.add(line.trim());
        }
        int from = page.indexOf("```java\n") + 8;
        int at = -1;
        for (String line : page.substring(from, page.indexOf("```", from)).split("\n")) {
            String call = line.replaceAll(" *//.*", "");
            int next = here.subList(at + 1, here.size()).indexOf(call);
            must(next >= 0, "README.md has a line that is not run here: " + call);
            at += next + 1;
        }
        must(at > 0, "README.md has no example");
    }

    private static String rowOf(Method m) {
        List<String> thrown = new ArrayList<>();
        for (Class<?> e : m.getExceptionTypes()) {
            thrown.add(e == IllegalStateException.class ? "state"
                    : e == IndexOutOfBoundsException.class ? "index"
                    : e == IllegalArgumentException.class ? "argument" : e.getName());
        }
        return m.getName() + "/" + m.getParameterCount() + ": "
                + (thrown.isEmpty() ? "nothing" : String.join(", ", thrown));
    }

    private static void tables(String page) {
        TreeSet<String> want = new TreeSet<>();
        for (Method m : SlackHall.class.getDeclaredMethods()) {
            if (Modifier.isPublic(m.getModifiers())) {
                want.add(rowOf(m));
            }
        }
        TreeSet<String> got = new TreeSet<>();
        for (String line : page.split("\n")) {
            if (line.startsWith("| `")) {
                String[] cells = line.split(" *\\| *");
                String call = cells[1].replace("`", "");
                String names = call.substring(call.indexOf('(') + 1, call.indexOf(')'));
                int many = names.isEmpty() ? 0 : names.split(", ").length;
                must(got.add(call.substring(0, call.indexOf('(')) + "/" + many + ": " + cells[cells.length - 1]),
                        "README.md tells twice: " + call);
            }
        }
        must(got.equals(want), "README.md tells " + got + "\nthe face is " + want);
    }

    public static void main(String[] args) throws IOException {
        String page = Files.readString(Path.of("README.md"));
        example();
        exampleIsRunHere(page);
        tables(page);
        System.out.println(wrong == 0 ? "README.md is as due" : wrong + " wrong");
        if (wrong != 0) {
            System.exit(1);
        }
    }
}
