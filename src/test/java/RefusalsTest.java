import java.lang.reflect.Method;
import java.lang.reflect.Modifier;
import java.util.TreeSet;

/**
 * All promises: each argument at its bounds and outside them, together with each other one; which exception comes
 * first; and that a refused call changes nothing, nor a question.
 */
public final class RefusalsTest {
    public static void main(String[] args) {
        everyMethodHasARow();
        for (Start start : Start.values()) {
            String untouched = Probe.of(start.make());
            for (Row[] part : Rows.ALL) {
                for (Row row : part) {
                    isAsTold(start, row, untouched);
                }
            }
        }
        Due.end();
    }

    private static void isAsTold(Start start, Row row, String untouched) {
        for (int[] a : row.trials()) {
            Seepwork x = start.make();
            String shown = row.shown(start, a);
            String due = row.due(start, a);
            Due.isText(shown + " throws", Due.thrownBy(() -> row.call.on(x, a)), due);
            boolean isAnswered = due.equals("nothing");
            if (isAnswered && row.isQuestion) {
                Due.is(shown + " again", row.call.on(x, a), row.call.on(start.make(), a));
            }
            if (!isAnswered || row.isQuestion) {
                Due.isText("the state behind " + shown, Probe.of(x), untouched);
            }
        }
    }

    private static void everyMethodHasARow() {
        TreeSet<String> rows = new TreeSet<>();
        for (Row[] part : Rows.ALL) {
            for (Row row : part) {
                rows.add(row.method + row.arguments.length);
            }
        }
        TreeSet<String> face = new TreeSet<>();
        for (Method method : Seepwork.class.getDeclaredMethods()) {
            if (Modifier.isPublic(method.getModifiers())) {
                face.add(method.getName() + method.getParameterCount());
            }
        }
        Due.isText("the methods with a row", rows.toString(), face.toString());
    }
}
