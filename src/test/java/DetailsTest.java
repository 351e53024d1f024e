import java.io.IOException;
import java.lang.reflect.Method;
import java.lang.reflect.Modifier;
import java.util.function.ToDoubleFunction;

/** Each sentence of the document's description on details and exceptions, with calls that find it broken. */
public final class DetailsTest extends Sentences {
    private static void testNumbersTold() {
        says("Numbers of spans that are told with a refusal are those ahead of the change");
        Counted x = with(signs(), "0:0-10=a;0:20-30=b;0:40-50=c");
        refuses(x, "the first one behind", 2, 2, () -> x.moveSpan(0, 0, 45, 60));
        refuses(x, "the second one behind", 2, 2, () -> x.moveSpan(0, 1, 45, 60));
        refuses(x, "the last one in front", 2, 0, () -> x.moveSpan(0, 2, 5, 15));
        refuses(x, "the first one over the others", 2, 1, () -> x.moveSpan(0, 0, 15, 60));
        refuses(x, "the last one over the others", 2, 0, () -> x.moveSpan(0, 2, 5, 60));
        says("and for a text those with the items ahead of that one");
        Counted y = with(signs(), "0:40-50=a");
        refuses(y, "two in front", 2, 2, () -> read(y, "0:0-10=b;0:20-30=c;0:45-46=d"));
        refuses(y, "one behind", 2, 0, () -> read(y, "0:60-70=b;0:45-46=c;0:0-1=d"));
        refuses(y, "an item of its own", 2, 1, () -> read(y, "0:60-70=b;0:65-66=c"));
        refuses(y, "an item of its own in front", 2, 0, () -> read(y, "0:0-10=b;0:5-6=c"));
        says("a refused item of a text keeps its reason and its number, too");
        Counted z = with(ruled(1), "0:0-10=a;0:20-30=b");
        refuses(z, "1", 1, 0, () -> read(z, "0:40-50=c;0:60-60=d"));
        refuses(z, "2", 2, 1, () -> read(z, "0:40-50=c;0:29-30=d"));
        refuses(z, "3", 3, 0, () -> read(z, "0:40-50=c;1:40-51=d"));
        is("its item", z.refusedItem(), 1);
        is("a host ahead in the text", read(z, "0:40-50=c;1:40-50=d"), 2);
        Counted w = full();
        refuses(w, "5", 5, 0, () -> read(w, "0:700-701=a"));
    }

    private static void testOwnWay() {
        says("A span that is moved is not in its own way");
        int[][] places = {{10, 20}, {11, 21}, {9, 19}, {12, 18}, {5, 25}, {19, 20}, {10, 30}, {0, 11}};
        for (int[] f : places) {
            Counted x = with(signs(), "0:10-20=a;0:30-40=b");
            is("moving to " + f[0] + "-" + f[1], x.moveSpan(0, 0, f[0], f[1]), 0);
            same("spans", row(x, 0), f[0] + "-" + f[1] + "=a 30-40=b");
        }
        says("A span that depends on another one may get another host by a change");
        Counted y = with(ruled(1), "0:0-10=a;0:20-30=b;1:2-4=w");
        is("moving the guest", y.moveSpan(1, 0, 22, 24), 0);
        is("its host", y.span(1, 0, 3), 1);
        is("the former host is free to go", y.moveSpan(0, 0, 40, 50), 1);
        is("the host's number", y.span(1, 0, 3), 0);
        Counted z = with(ruled(1), "0:0-10=a;0:20-30=b;1:2-4=w;1:22-24=v");
        is("joining the hosts", z.join(0, 0), 1);
        is("host of both", z.span(0, 0, 4), 2);
        says("also one of both parts of a split");
        Counted u = with(ruled(1), "0:0-10=a;1:2-4=w;1:6-8=v");
        is("between the guests", u.split(0, 0, 5), 2);
        is("the first part", u.span(1, 0, 3), 0);
        is("the second part", u.span(1, 1, 3), 1);
        refuses(u, "through a guest", 4, 1, () -> u.split(0, 1, 7));
        is("at the end of a guest", u.split(0, 1, 8), 3);
        is("at the first frame of a guest", u.split(0, 1, 6), 4);
        is("its host", u.span(1, 1, 3), 2);
        Counted v = with(ruled(3), "0:0-10=a;1:0-90=w");
        is("by the rule 3", v.split(0, 0, 5), 2);
        is("the first part", v.span(1, 0, 3), 0);
    }

    private static void testJoinedGuests() {
        says("those that depend on either of two joined spans count");
        String hosts = "0:0-10=a;0:10-20=b";
        Counted x = with(ruled(2), hosts, "1:0-10=w");
        refuses(x, "the former, rule 2", 4, 1, () -> x.join(0, 0));
        Counted y = with(ruled(2), hosts, "1:10-20=w");
        refuses(y, "the latter, rule 2", 4, 1, () -> y.join(0, 0));
        Counted z = with(ruled(3), hosts, "1:10-20=w");
        refuses(z, "the latter, rule 3", 4, 1, () -> z.join(0, 0));
        is("the former, rule 3", with(ruled(3), hosts, "1:0-1=w").join(0, 0), 1);
        is("both, rule 1", with(ruled(1), hosts, "1:0-10=w;1:10-20=v").join(0, 0), 1);
        says("In refusals of splits and joins, the number is 0 but for the reason 4");
        Counted u = with(ruled(2), "0:0-5=z;0:5-10=a;0:10-20=b;1:5-10=w;1:10-20=v");
        refuses(u, "a number to be forgotten", 2, 1, () -> add(u, 0, 9, 30, "c"));
        refuses(u, "a split for 1", 1, 0, () -> u.split(0, 1, 10));
        refuses(u, "a split for 4", 4, 1, () -> u.split(0, 1, 7));
        refuses(u, "a split for 3", 3, 0, () -> u.split(1, 0, 7));
        Counted w = with(ruled(2), "0:0-5=z;0:5-10=a;0:10-20=b;1:5-10=w;1:10-20=v");
        refuses(w, "a number to be forgotten", 2, 1, () -> add(w, 0, 9, 30, "c"));
        refuses(w, "a join for 4", 4, 1, () -> w.join(0, 1));
        refuses(w, "a join for 3", 3, 0, () -> w.join(1, 0));
        refuses(w, "a move for 4", 4, 1, () -> w.moveSpan(0, 1, 5, 9));
        refuses(w, "a join for 1", 1, 0, () -> w.join(0, 2));
        Counted v = full();
        v.moveSpan(0, 29, 600, 610);
        fails("a number to be forgotten", REFUSED, () -> add(v, 0, 3, 4, "a"));
        is("it", v.refusal(false), 1);
        refuses(v, "a split for 5", 5, 0, () -> v.split(0, 29, 605));
    }

    private static void testDetails() {
        says("A gap of 0 takes spans that touch");
        links("0:10-20=a;1:20-30=b", ",", 0, 1);
        links("0:10-20=a;1:21-30=b", ",", 0, 0);
        links("0:10-20=a;1:19-30=b", ",", 0, 0);
        says("A text of a pattern that is malformed leaves the latest pattern");
        Counted x = with(book(SIGNS, WORDS), "0:0-10=a;0:10-20=b;1:10-20=c;1:20-30=d");
        same("matches", matches(x, search(x, "0=a,1=*")), "0-0 0-1");
        malformed(x, "one more part", 8, () -> search(x, "1=*&0=b&"));
        same("the same matches", matches(x, 2), "0-0 0-1");
        malformed(x, "a part with another label", 7, () -> search(x, "0=b&1=d?"));
        malformed(x, "nothing", 0, x::search);
        same("the same matches again", matches(x, 2), "0-0 0-1");
        fails("no more of them", NONE, () -> x.match(2, 0));
        fails("no more items", NONE, () -> x.match(0, 2));
        says("Spans with the same label that only touch are not joined in a merge");
        merges("0:0-10=a", "0:10-20=a", "0-10/1 10-20/2", 0, 0);
        merges("0:10-20=a", "0:0-10=a", "0-10/2 10-20/1", 0, 0);
        merges("0:0-10=a;0:10-20=a", "", "0-10/1 10-20/1", 0, 0);
        merges("0:0-10=a;0:10-20=a", "0:5-10=a", "0-10/3 10-20/1", 0, 0);
        says("what is dropped is a conflict all the same, and makes its annotator no source");
        merges("0:0-20=a", "0:5-10=b", "0-20/1", 1, 1);
        merges("0:5-10=b", "0:0-20=a", "0-20/2", 1, 1);
        says("but a span with the same label makes it one even if the end stays");
        merges("0:0-20=a", "0:5-10=a", "0-20/3", 0, 0);
        merges("0:5-20=a", "0:0-20=a", "0-20/3", 0, 0);
        says("A text with an end above 1000 is refused, not malformed");
        Counted y = signs();
        refuses(y, "1001", 1, 0, () -> read(y, "0:0-1001=a"));
        refuses(y, "9999", 1, 0, () -> read(y, "0:0-9999=a"));
        refuses(y, "both above", 1, 0, () -> read(y, "0:9998-9999=a"));
        fails("no text was malformed", NONE, y::errorPosition);
        is("1000", read(y, "0:0-1000=a"), 1);
        says("To give a span its own label is a change");
        Counted z = with(signs(), "0:0-10=ab");
        is("renaming", rename(z, 0, 0, "ab"), 0);
        is("changes", z.book(6), 3);
        is("undo", z.undo(), 2);
        same("span", row(z, 0), "0-10=ab");
    }

    /** All that is kept beside the state, and a buffer with "ab". */
    private static Counted rich() {
        Counted x = nested();
        fails("a refused text", REFUSED, () -> read(x, "0:70-80=d;0:55-56=e"));
        fails("a malformed text", ARGUMENT, () -> read(x, "0:x"));
        search(x, "0=a&1=*");
        return put(x, "ab");
    }

    private static void throwing(String what, Class<?> due, ToDoubleFunction<Counted> call) {
        Counted x = rich();
        leaves(x, what, due, () -> call.applyAsDouble(x));
        is("renaming with the buffer behind " + what, x.rename(0, 0), 1);
        is("first letter", x.letter(0, 0, 0), 'a');
        is("second letter", x.letter(0, 0, 1), 'b');
    }

    private static void testThrowing() {
        says("A call that throws an exception leaves the state unchanged, unless its description says otherwise");
        throwing("addTier", ARGUMENT, x -> x.addTier(4, 0, 0));
        throwing("addTier", INDEX, x -> x.addTier(0, 1, 3));
        throwing("select", ARGUMENT, x -> x.select(2));
        throwing("setSetting", INDEX, x -> x.setSetting(2, 1));
        throwing("setSetting", ARGUMENT, x -> x.setSetting(0, 201));
        throwing("tier", INDEX, x -> x.tier(3, 0));
        throwing("tier", ARGUMENT, x -> x.tier(0, 8));
        throwing("book", ARGUMENT, x -> x.book(8));
        throwing("append", ARGUMENT, x -> x.append('a' << 24 | 'b' << 16 | 127));
        throwing("addSpan", INDEX, x -> x.addSpan(3, 70, 80));
        throwing("removeSpan", INDEX, x -> x.removeSpan(0, 3));
        throwing("moveSpan", INDEX, x -> x.moveSpan(0, 3, 70, 80));
        throwing("rename", INDEX, x -> x.rename(0, 3));
        throwing("split", INDEX, x -> x.split(0, 3, 15));
        throwing("join", INDEX, x -> x.join(0, 3));
        throwing("span", INDEX, x -> x.span(0, 3, 0));
        throwing("span", ARGUMENT, x -> x.span(0, 0, 5));
        throwing("letter", INDEX, x -> x.letter(0, 3, 0));
        throwing("letter", NONE, x -> x.letter(0, 0, 1));
        throwing("spanAt", INDEX, x -> x.spanAt(3, 0));
        throwing("aligned", INDEX, x -> x.aligned(0, 1, 3));
        throwing("alignment", INDEX, x -> x.alignment(0, 3, true));
        throwing("match", NONE, x -> x.match(1, 0));
        throwing("merge", INDEX, x -> x.merge(3, 0));
        throwing("merge", ARGUMENT, x -> x.merge(0, 5));
        throwing("merged", NONE, x -> x.merged(0, 3, 0));
        throwing("merged", ARGUMENT, x -> x.merged(0, 0, 4));
        throwing("frames", ARGUMENT, x -> x.frames(0, 5));
        throwing("agreement", INDEX, x -> x.agreement(3));
        throwing("kappa", INDEX, x -> x.kappa(3));
        throwing("restore", STATE, x -> x.restore());
        Counted full = put(signs(), "a".repeat(98));
        leaves(full, "append of too many", STATE, () -> full.append('a' << 16 | 'b' << 8 | 'c'));
        is("room for two", full.append('a' << 8 | 'b'), 100);
        Counted fresh = signs();
        leaves(fresh, "refusal", NONE, () -> fresh.refusal(true));
        leaves(fresh, "errorPosition", NONE, fresh::errorPosition);
        leaves(fresh, "refusedItem", NONE, fresh::refusedItem);
        leaves(fresh, "match", STATE, () -> fresh.match(0, 0));
        leaves(fresh, "agreement", ARITHMETIC, () -> fresh.agreement(0));
        leaves(fresh, "kappa", ARITHMETIC, () -> fresh.kappa(0));
        testEmptying();
    }

    /** The calls that empty the buffer and keep what went wrong, but leave the rest. */
    private static void testEmptying() {
        Counted x = nested();
        malformed(x, "addSpan", 0, () -> add(x, 0, 70, 80, "?"));
        malformed(x, "rename", 1, () -> rename(x, 0, 0, "x?"));
        malformed(x, "search", 2, () -> search(x, "0=?"));
        malformed(x, "read", 3, () -> read(x, "0:1?"));
        refuses(x, "addSpan", 1, 0, () -> add(x, 0, 70, 70, "x"));
        is("buffer", x.book(5), 0);
        Counted y = nested();
        refuses(y, "read", 2, 0, () -> read(y, "0:70-80=x;0:10-11=y"));
        is("buffer", y.book(5), 0);
        is("item", y.refusedItem(), 1);
        put(y, "ab");
        refuses(y, "moveSpan", 1, 0, () -> y.moveSpan(0, 0, 1, 1));
        refuses(y, "split", 1, 0, () -> y.split(0, 0, 10));
        refuses(y, "join", 1, 0, () -> y.join(0, 2));
        is("buffer stays", y.book(5), 2);
    }

    private static void testOrderOfExceptions() {
        says("If a method can throw several exceptions, they are checked in the order in which they are listed");
        Counted six = book(new int[6]);
        fails("addTier, all three", ARGUMENT, () -> six.addTier(4, 1, 6));
        fails("addTier, all three by the rule", ARGUMENT, () -> six.addTier(0, 4, 6));
        fails("addTier, the last two", INDEX, () -> six.addTier(0, 1, 6));
        fails("addTier, the last one", STATE, () -> six.addTier(0, 1, 5));
        fails("addTier without a parent", STATE, () -> six.addTier(0, 0, 6));
        Counted x = with(signs(), "0:0-10=a");
        fails("setSetting", INDEX, () -> x.setSetting(2, 201));
        fails("tier", INDEX, () -> x.tier(1, 8));
        fails("addSpan, all three", INDEX, () -> add(x, 1, 5, 5, "?"));
        fails("addSpan, the last two", ARGUMENT, () -> x.addSpan(0, 5, 5));
        fails("moveSpan", INDEX, () -> x.moveSpan(0, 1, 5, 5));
        fails("rename", INDEX, () -> rename(x, 0, 1, "?"));
        fails("split", INDEX, () -> x.split(0, 1, 0));
        fails("join", INDEX, () -> x.join(0, 1));
        fails("span", INDEX, () -> x.span(0, 1, 5));
        fails("letter", INDEX, () -> x.letter(0, 1, 9));
        fails("match", STATE, () -> x.match(-1, -1));
        fails("merge", INDEX, () -> x.merge(1, 5));
        fails("merged, all three", INDEX, () -> x.merged(1, 9, 4));
        fails("merged, the last two", NONE, () -> x.merged(0, 1, 4));
        fails("frames", INDEX, () -> x.frames(1, 5));
        fails("agreement", INDEX, () -> signs().agreement(1));
        fails("kappa", INDEX, () -> signs().kappa(1));
        Counted y = with(signs(), "0:0-10=a");
        fails("read", ARGUMENT, () -> read(y, "0:5-5=a;0:0-10=b;?"));
        fails("its items were not tried", NONE, () -> y.refusal(true));
        Counted z = put(signs(), "a".repeat(98));
        fails("append", ARGUMENT, () -> z.append('a' << 24 | 'b' << 16 | 'c' << 8 | 127));
    }

    private static void testNeitherUndoneNorSaved() {
        says("The input buffer, the error position, the refusal, the refused item and the latest pattern are neither undone nor saved");
        Counted x = with(signs(), "0:0-10=a;0:20-30=b");
        search(x, "0=*");
        fails("an old refused text", REFUSED, () -> read(x, "0:5-6=c"));
        fails("an old malformed text", ARGUMENT, () -> read(x, "?"));
        x.snapshot();
        x.select(0);
        fails("a refused text", REFUSED, () -> read(x, "0:40-50=c;0:29-31=d"));
        fails("a malformed text", ARGUMENT, () -> read(x, "0:?"));
        search(x, "0=b&0=*");
        put(x, "xyz");
        String kept = "3 2 2 2 1 1 1";
        same("before", beside(x), kept);
        x.undo();
        same("behind undo", beside(x), kept);
        x.undo();
        fails("there is no span b", NONE, () -> x.match(0, 0));
        x.restore();
        same("behind restore", beside(x), kept);
        x.clear();
        is("buffer behind clear", x.book(5), 3);
        is("error position behind clear", x.errorPosition(), 2);
        is("refusal behind clear", x.refusal(true), 2);
        is("refused item behind clear", x.refusedItem(), 1);
        x.restore();
        is("the pattern is not saved", x.book(7), 0);
        is("the buffer can be used", x.rename(0, 0), 1);
        same("label", row(x, 0), "0-10=xyz 20-30=b");
    }

    private static String beside(Counted x) {
        return x.book(5) + " " + x.book(7) + " " + x.errorPosition() + " " + x.refusal(true) + " " + x.refusal(false)
            + " " + x.refusedItem() + " " + x.match(0, 0);
    }

    private static void testLostTiers() {
        says("a part of the pattern with a tier that there is not, or that has another kind now, is fitted by no span");
        String[] patterns = {"1=*", "1=a", "1=*&0=*", "0=*&1=*", "0=*&1=a&0=*"};
        for (String pattern : patterns) {
            Counted x = with(signs(), "0:0-10=a");
            x.addTier(WORDS, 0, 0);
            add(x, 1, 5, 6, "a");
            is("matches of " + pattern, search(x, pattern), 1);
            x.undo();
            x.undo();
            fails("without the tier", NONE, () -> x.match(0, 0));
            x.addTier(SIGNS, 0, 0);
            add(x, 1, 5, 6, "a");
            fails("with a tier of another kind", NONE, () -> x.match(0, 0));
            x.undo();
            x.undo();
            x.addTier(WORDS, 0, 0);
            fails("with a new tier without spans", NONE, () -> x.match(0, 0));
            add(x, 1, 5, 6, "a");
            is("with the kind again", x.match(0, 0), 0);
        }
        Counted y = with(book(HOLDS), "0:0-10=b");
        y.snapshot();
        y.clear();
        y.addTier(WORDS, 0, 0);
        read(y, "0:0-10=b");
        is("a word", search(y, "0=b"), 1);
        y.restore();
        fails("a hold for a word", NONE, () -> y.match(0, 0));
    }

    private static void testFace() {
        says("The constructor and the methods follow, a promise each");
        int methods = 0;
        for (Method m : LessonTiers.class.getDeclaredMethods()) {
            methods += Modifier.isPublic(m.getModifiers()) ? 1 : 0;
        }
        is("methods", methods, 33);
        is("constructors", LessonTiers.class.getConstructors().length, 1);
    }

    private static void testUse() {
        says("tiers with spans of signs, holds, mouthings and spoken words, told by two annotators");
        Counted x = with(book(SIGNS, HOLDS, MOUTHINGS, WORDS), "0:0-10=sign;1:0-10=l;2:0-10=0;3:0-10=word");
        x.select(1);
        read(x, "0:5-9=gist;1:5-9=r;2:5-9=9;3:5-9=weird");
        same("of 1", row(x, 0) + row(x, 1) + row(x, 2) + row(x, 3), "5-9=gist5-9=r5-9=95-9=weird");
        x.select(0);
        same("of 0", row(x, 0) + row(x, 1) + row(x, 2) + row(x, 3), "0-10=sign0-10=l0-10=00-10=word");
        says("All numbers are whole, but where it is said");
        for (Method m : LessonTiers.class.getDeclaredMethods()) {
            if (Modifier.isPublic(m.getModifiers()) && (m.getReturnType() == float.class || m.getReturnType() == double.class)) {
                boolean isSaid = m.getName().equals("agreement") || m.getName().equals("kappa");
                is(m.getName(), isSaid ? 1 : 0, 1);
            }
        }
        testManyCalls();
    }

    /** The same call, or the same few ones, with the same answer up to the last call that an object is used for. */
    private static void lasts(String what, Counted x, double due, Call call) {
        while (x.callsLeft() >= 4) {
            is(what, call.go(), due);
        }
        while (x.callsLeft() > 0) {
            is("tiers behind many calls of " + what, x.book(0), 1);
        }
    }

    private static void testManyCalls() {
        says("An object is used for at most 512 calls after it has been made");
        Counted far = full();
        far.setSetting(1, 200);
        search(far, "0=*,0=*,0=*,0=*");
        lasts("match", far, 20, () -> far.match(999, 3));
        Counted x = full();
        lasts("search", x, 30, () -> search(x, "0=*&0=*"));
        Counted y = full();
        lasts("aligned", y, 29, () -> y.aligned(0, 0, 29));
        Counted z = full();
        lasts("addSpan and removeSpan", z, 1, () -> z.removeSpan(0, 29) + 0 * add(z, 0, 600, 610, "z"));
        Counted u = full();
        u.moveSpan(0, 29, 600, 700);
        u.removeSpan(0, 0);
        lasts("split and join", u, 59, () -> u.split(0, 28, 650) + u.join(0, 28));
        Counted v = full();
        lasts("a refused read", v, 5, () -> {
            fails("the 31st", REFUSED, () -> read(v, "0:600-601=a"));
            return v.refusal(true);
        });
        Counted w = full();
        lasts("undo", w, 7, () -> w.undo() + 0 * rename(w, 0, 0, "b"));
        Counted r = full();
        r.snapshot();
        lasts("restore", r, 2, () -> r.restore() + r.moveSpan(0, 0, 600, 700) - 28);
        Counted k = full();
        lasts("kappa", k, 0, () -> k.kappa(0));
        Counted c = signs();
        lasts("clear", c, 1, () -> c.clear() + c.addTier(SIGNS, 0, 0));
    }

    public static void main(String[] args) throws IOException {
        section("What it is");
        testUse();
        section("Details");
        testNumbersTold();
        testOwnWay();
        testJoinedGuests();
        testDetails();
        section("Exceptions");
        testThrowing();
        testOrderOfExceptions();
        testNeitherUndoneNorSaved();
        testLostTiers();
        testFace();
        endQuotes();
    }
}
