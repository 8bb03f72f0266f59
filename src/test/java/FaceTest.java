import java.lang.reflect.Constructor;
import java.lang.reflect.Field;
import java.lang.reflect.Method;
import java.lang.reflect.Modifier;
import java.util.Arrays;
import java.util.TreeSet;

/** The face, and promises 1 (a new object), 18 (full) and 19 (count). */
public final class FaceTest {
    private static final Check check = new Check();

    public static void main(String[] args) {
        face();
        newObject();
        full();
        count();
        check.end("FaceTest");
    }

    private static void face() {
        check.due("NONE", -1, TunnelDesk.NONE);
        check.due("OVER", -2, TunnelDesk.OVER);
        check.due("final", true, Modifier.isFinal(TunnelDesk.class.getModifiers()));
        TreeSet<String> seen = new TreeSet<>();
        for (Method m : TunnelDesk.class.getDeclaredMethods()) {
            if (!Modifier.isPrivate(m.getModifiers())) {
                seen.add(m.getReturnType().getSimpleName() + " " + m.getName() + names(m.getParameterTypes())
                        + names(m.getExceptionTypes()));
            }
        }
        String none = "[NoSuchElementException]";
        String both = "[IllegalArgumentException, IllegalStateException]";
        String three = "[NoSuchElementException, IllegalArgumentException, IllegalStateException]";
        check.due("the methods", new TreeSet<>(Arrays.asList(
                "boolean type[char][]", "int rule[boolean, int, int, int, int, int]" + both,
                "int named[boolean, int, int]" + both, "int account[]" + both, "int forget[][]", "int open[][]",
                "int free[int]" + none, "boolean send[int, int]" + three, "boolean give[int, int]" + three,
                "void connected[int, boolean][NoSuchElementException, IllegalStateException]",
                "int up[int]" + none, "int down[int]" + none,
                "void finish[int, boolean][NoSuchElementException, IllegalStateException]", "int tick[][]",
                "int about[int, int][NoSuchElementException, IllegalArgumentException]",
                "boolean lets[int, int][IllegalArgumentException]", "float full[][]",
                "int count[int][IllegalArgumentException]")), seen);
        TreeSet<String> fields = new TreeSet<>();
        for (Field f : TunnelDesk.class.getDeclaredFields()) {
            if (!Modifier.isPrivate(f.getModifiers())) {
                fields.add(f.getName());
            }
        }
        check.due("the constants", new TreeSet<>(Arrays.asList("NONE", "OVER")), fields);
        for (Constructor<?> made : TunnelDesk.class.getDeclaredConstructors()) {
            check.due("the constructor", "[]", names(made.getParameterTypes()));
        }
    }

    private static String names(Class<?>[] types) {
        return Arrays.stream(types).map(Class::getSimpleName).toList().toString();
    }

    private static void newObject() {
        TunnelDesk desk = new TunnelDesk();
        for (int c = 0; c < 4; c++) {
            check.due("about a new connection", "0 0 0 0 0 0 0 0", Drive.about(desk, c));
        }
        for (int what = 0; what < 4; what++) {
            check.due("count " + what + " of a new object", 0, desk.count(what));
        }
        check.due("lets without rules", false, desk.lets(1, 1));
        check.due("full of a new object", 0f, desk.full());
        check.due("tick of a new object", 0, desk.tick());
        check.due("forget of a new object", 0, desk.forget());
        new TunnelDesk().type('a');
        check.due("another object has its own pad", 0, desk.count(3));
    }

    private static void full() {
        TunnelDesk desk = Drive.lettingAll();
        int c = Drive.relaying(desk);
        check.due("full of empty rings", 0f, desk.full());
        desk.give(c, 1);
        check.due("a byte in DOWN", 1f / 32f, desk.full());
        Drive.send(desk, c, 1, 2);
        check.due("two more in UP", 3f / 32f, desk.full());
        desk.open();
        check.due("a second connection", 3f / 64f, desk.full());
        desk.open();
        check.due("a third connection", 3f / 96f, desk.full());
        desk.finish(1, true);
        check.due("an ended one is not free", 3f / 96f, desk.full());
        Drive.ticks(desk, 30);
        check.due("DOWN of an ended one counts", 1f / 96f, desk.full());
        desk.free(1);
        desk.free(2);
        check.due("a free one does not count", 1f / 32f, desk.full());
        desk.free(c);
        check.due("all are free again", 0f, desk.full());
        c = Drive.relaying(desk);
        for (int i = 0; i < 16; i++) {
            desk.give(c, i);
            desk.send(c, i);
        }
        check.due("both rings are full", 1f, desk.full());
    }

    private static void count() {
        TunnelDesk desk = new TunnelDesk();
        desk.rule(true, 0, 0, 0, 0, 0);
        desk.rule(true, 0, 0, 0, 0, 0);
        desk.rule(true, 0, 0, 0, 0, 0);
        Drive.account(desk, "a.b");
        Drive.account(desk, "a.b");
        desk.open();
        Drive.type(desk, "abcd");
        check.due("count(0)", 3, desk.count(0));
        check.due("count(1)", 2, desk.count(1));
        check.due("count(2)", 1, desk.count(2));
        check.due("count(3)", 4, desk.count(3));
        desk.finish(0, true);
        check.due("an ended one is not free", 1, desk.count(2));
        desk.free(0);
        check.due("a free one", 0, desk.count(2));
        for (int what : new int[] {-1, 4, Integer.MIN_VALUE, Integer.MAX_VALUE}) {
            check.refused(desk, "count(" + what + ")", IllegalArgumentException.class, () -> desk.count(what));
        }
    }
}
