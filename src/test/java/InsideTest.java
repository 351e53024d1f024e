import java.lang.reflect.Field;
import java.lang.reflect.Method;

/**
 * What isConsistent answers when it is not so: as no run of calls gets there, spans are put wrong by reflection.
 * With another inside of the class there is nothing that this test could put wrong, and it passes.
 */
public final class InsideTest extends Checks {
    private static Object field(Object of, String name) throws ReflectiveOperationException {
        Field field = of.getClass().getDeclaredField(name);
        field.setAccessible(true);
        return field.get(of);
    }

    private static Object row(LessonTiers x, int annotator, int tier) throws ReflectiveOperationException {
        Object book = field(x, "now");
        Method row = book.getClass().getDeclaredMethod("row", int.class, int.class);
        row.setAccessible(true);
        return row.invoke(book, annotator, tier);
    }

    private static void setFrames(LessonTiers x, int annotator, int tier, int span, int first, int end)
            throws ReflectiveOperationException {
        Object row = row(x, annotator, tier);
        ((int[]) field(row, "firsts"))[span] = first;
        ((int[]) field(row, "ends"))[span] = end;
    }

    private static void add(LessonTiers x, int tier, int first, int end) {
        x.append('a');
        x.addSpan(tier, first, end);
    }

    /** Two tiers of signs, the second one by a rule; both annotators tell 10-20, 20-30 and 40-50 in both. */
    private static LessonTiers told(int rule) {
        LessonTiers x = new LessonTiers();
        x.addTier(SIGNS, 0, 0);
        x.addTier(SIGNS, rule, 0);
        for (int annotator = 0; annotator < 2; annotator++) {
            x.select(annotator);
            for (int tier = 0; tier < 2; tier++) {
                add(x, tier, 10, 20);
                add(x, tier, 20, 30);
                add(x, tier, 40, 50);
            }
        }
        return x;
    }

    /** Puts a span wrong, and back again; told is whether that leaves all as it should be. */
    private static void puts(LessonTiers x, int annotator, int tier, int span, int first, int end, boolean isRight)
            throws ReflectiveOperationException {
        Object row = row(x, annotator, tier);
        int oldFirst = ((int[]) field(row, "firsts"))[span];
        int oldEnd = ((int[]) field(row, "ends"))[span];
        String what = "annotator " + annotator + ", tier " + tier + ", span " + span + " at " + first + "-" + end;
        setFrames(x, annotator, tier, span, first, end);
        is("isConsistent, " + what, x.isConsistent() ? 1 : 0, isRight ? 1 : 0);
        setFrames(x, annotator, tier, span, oldFirst, oldEnd);
        is("isConsistent again behind " + what, x.isConsistent() ? 1 : 0, 1);
    }

    private static void testOrder() throws ReflectiveOperationException {
        place = "spans of a tier have no frame in common and are in order";
        LessonTiers x = told(0);
        for (int annotator = 0; annotator < 2; annotator++) {
            for (int tier = 0; tier < 2; tier++) {
                puts(x, annotator, tier, 1, 20, 40, true);
                puts(x, annotator, tier, 0, 0, 20, true);
                puts(x, annotator, tier, 2, 30, 1000, true);
                puts(x, annotator, tier, 0, 10, 21, false);
                puts(x, annotator, tier, 1, 19, 30, false);
                puts(x, annotator, tier, 1, 20, 41, false);
                puts(x, annotator, tier, 2, 0, 5, false);
                puts(x, annotator, tier, 1, 60, 70, false);
                puts(x, annotator, tier, 0, -1, 20, false);
                puts(x, annotator, tier, 2, 40, 1001, false);
                puts(x, annotator, tier, 1, 30, 20, false);
            }
        }
    }

    private static void testHosts() throws ReflectiveOperationException {
        place = "each span has a host where its rule demands one";
        for (int annotator = 0; annotator < 2; annotator++) {
            puts(told(0), annotator, 1, 2, 60, 70, true);
            for (int rule = 1; rule < 4; rule++) {
                LessonTiers x = told(rule);
                puts(x, annotator, 1, 2, 60, 70, false);
                puts(x, annotator, 1, 0, 9, 20, false);
                puts(x, annotator, 0, 0, 11, 20, false);
                puts(x, annotator, 1, 2, 40, 51, rule == 3);
                puts(x, annotator, 1, 2, 40, 49, rule != 2);
                puts(x, annotator, 1, 2, 41, 50, rule == 1);
                puts(x, 1 - annotator, 0, 2, 60, 70, false);
            }
        }
    }

    public static void main(String[] args) {
        try {
            setFrames(new LessonTiers(), 0, 0, 0, 0, 0);
        } catch (ReflectiveOperationException e) {
            System.out.println("the inside is another one: nothing to put wrong");
            return;
        }
        try {
            testOrder();
            testHosts();
        } catch (ReflectiveOperationException e) {
            wrong("the inside is another one: " + e);
        }
        end();
    }
}
