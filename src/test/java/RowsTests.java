import java.lang.reflect.Array;
import java.lang.reflect.Field;
import java.lang.reflect.Modifier;
import java.util.ArrayList;
import java.util.List;

/** "All memory is rows made once": an object is the same objects and rows behind all its calls. */
public final class RowsTests {
    private static final int MOST_ELEMENTS = 10000;

    private final Due due = new Due();

    public static void main(String[] args) throws IllegalAccessException {
        RowsTests tests = new RowsTests();
        tests.noRowIsMadeLater();
        tests.rowsAreSmall();
        tests.twoObjectsShareNoRow();
        tests.due.end();
    }

    private void noRowIsMadeLater() throws IllegalAccessException {
        TrainingRows x = new TrainingRows();
        List<Object> before = partsOf(x);
        callEachOften(x);
        List<Object> after = partsOf(x);
        due.same("parts", String.valueOf(before.size()), String.valueOf(after.size()));
        for (int i = 0; i < Math.min(before.size(), after.size()); i++) {
            boolean same = before.get(i) == after.get(i);
            due.is("part " + i + " is the one made at first", true, () -> same);
        }
    }

    private void rowsAreSmall() throws IllegalAccessException {
        int elements = 0;
        for (Object part : partsOf(new TrainingRows())) {
            elements += part.getClass().isArray() ? Array.getLength(part) : 0;
        }
        boolean small = elements > 0 && elements <= MOST_ELEMENTS;
        due.is(elements + " elements are few enough", true, () -> small);
    }

    private void twoObjectsShareNoRow() throws IllegalAccessException {
        List<Object> others = partsOf(new TrainingRows());
        for (Object part : partsOf(new TrainingRows())) {
            boolean shared = holdsIt(others, part);
            due.is("a part of both, " + part.getClass().getSimpleName(), false, () -> shared);
        }
    }

    private static void callEachOften(TrainingRows x) {
        Due.answerOf(() -> x.need(0, 1));
        for (int i = 0; i < 16; i++) {
            int course = i;
            x.course(20, 50, 5);
            x.ratio(i, 10);
            x.found(i, i);
            x.teach(i, i, true);
            Due.answerOf(() -> x.need(course, course - 1));
        }
        x.pause(5);
        for (int day = 0; day < 20; day++) {
            int person = day % 16;
            int course = (day + 1) % 16;
            x.day(day);
            x.use(person, person);
            Due.answerOf(() -> x.result(person, course, 50));
            Due.answerOf(() -> x.result(19, 0, 49));
            x.holds(person, course, day);
            x.lapse(person, course);
            x.failed(person, course);
            x.barred(person, course);
            x.room(course);
            x.plan(0xBA9876543210L, 12, 100 + day);
            x.seated(11);
            x.tomorrow(course, 0);
            x.count(3);
        }
    }

    /** The object, what its fields lead to, and so on, in the order of the fields. */
    private static List<Object> partsOf(Object whole) throws IllegalAccessException {
        List<Object> parts = new ArrayList<>();
        parts.add(whole);
        for (int next = 0; next < parts.size(); next++) {
            Class<?> type = parts.get(next).getClass();
            if (!type.isArray()) {
                addFields(parts.get(next), type, parts);
            }
        }
        return parts;
    }

    private static void addFields(Object owner, Class<?> type, List<Object> parts)
            throws IllegalAccessException {
        for (Field field : type.getDeclaredFields()) {
            if (Modifier.isStatic(field.getModifiers()) || field.getType().isPrimitive()) {
                continue;
            }
            field.setAccessible(true);
            Object part = field.get(owner);
            if (part != null && !holdsIt(parts, part)) {
                parts.add(part);
            }
        }
    }

    private static boolean holdsIt(List<Object> parts, Object part) {
        for (Object other : parts) {
            if (other == part) {
                return true;
            }
        }
        return false;
    }
}
