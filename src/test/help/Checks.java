import java.util.NoSuchElementException;

/** What the tests by hand share: checks that print what is wrong, and short ways to tell spans and texts. */
abstract class Checks {
    static final Class<?> INDEX = IndexOutOfBoundsException.class;
    static final Class<?> ARGUMENT = IllegalArgumentException.class;
    static final Class<?> STATE = IllegalStateException.class;
    static final Class<?> REFUSED = UnsupportedOperationException.class;
    static final Class<?> NONE = NoSuchElementException.class;
    static final Class<?> ARITHMETIC = ArithmeticException.class;

    static final int SIGNS = 0;
    static final int HOLDS = 1;
    static final int MOUTHINGS = 2;
    static final int WORDS = 3;

    private static final int MOST_TOLD = 100;

    /** A label for each kind. */
    static final String[] LABELS = {"sign", "l", "7", "word"};

    /** What of the document the next checks are about. */
    static String place = "";
    private static int wrong = 0;

    interface Call {
        double go();
    }

    interface NumberCall {
        double go(int number);
    }

    static void wrong(String what) {
        wrong++;
        if (wrong <= MOST_TOLD) {
            System.out.println(place + ": " + what);
        }
    }

    /** Ends the test with the exit code that .ci/run looks at. */
    static void end() {
        System.out.println(wrong == 0 ? "all is as due" : wrong + " wrong");
        if (wrong != 0) {
            System.exit(1);
        }
    }

    static void is(String what, double got, double due) {
        if (got != due) {
            wrong(what + " is " + got + ", due is " + due);
        }
    }

    static void same(String what, String got, String due) {
        if (!got.equals(due)) {
            wrong(what + " is " + got + ", due is " + due);
        }
    }

    static void fails(String what, Class<?> due, Call call) {
        Class<?> got = null;
        try {
            call.go();
        } catch (RuntimeException e) {
            got = e.getClass();
        }
        if (got != due) {
            wrong(what + " throws " + got + ", due is " + due);
        }
    }

    /** Numbers that are not from 0 on below a limit: next to both ends, and as far out as ints go. */
    static int[] outside(int limit) {
        return new int[] {-1, limit, limit + 1, -2, limit + 30, limit + 1000, Integer.MAX_VALUE, Integer.MAX_VALUE - 1,
            Integer.MIN_VALUE, Integer.MIN_VALUE + 1};
    }

    static void failsOutside(String what, Class<?> due, int limit, NumberCall call) {
        for (int number : outside(limit)) {
            fails(what + " " + number, due, () -> call.go(number));
        }
    }

    /** A call that throws and leaves all that can be asked as it was. */
    static void leaves(Counted x, String what, Class<?> due, Call call) {
        String before = all(x);
        fails(what, due, call);
        same("all behind " + what, all(x), before);
    }

    /** A refused call: the exception, the reason, the number that is kept, an empty buffer, and no change. */
    static void refuses(Counted x, String what, int reason, int number, Call call) {
        String before = told(x);
        fails(what, REFUSED, call);
        is(what + ": reason", x.refusal(true), reason);
        is(what + ": number", x.refusal(false), number);
        same(what + ": state", told(x), before);
    }

    /** A text that is malformed: the exception, the error position, an empty buffer, and no change. */
    static void malformed(Counted x, String what, int position, Call call) {
        String before = told(x);
        fails(what, ARGUMENT, call);
        is(what + ": error position", x.errorPosition(), position);
        is(what + ": buffer", x.book(5), 0);
        same(what + ": state", told(x), before);
    }

    static int packed(String text, int from) {
        int packed = 0;
        for (int i = from; i < Math.min(from + 4, text.length()); i++) {
            packed = packed << 8 | text.charAt(i);
        }
        return packed;
    }

    /** Puts a text into the buffer, four characters a call. */
    static Counted put(Counted x, String text) {
        for (int i = 0; i < text.length(); i += 4) {
            x.append(packed(text, i));
        }
        return x;
    }

    static int add(Counted x, int tier, int first, int end, String label) {
        return put(x, label).addSpan(tier, first, end);
    }

    static int read(Counted x, String text) {
        return put(x, text).read();
    }

    static int search(Counted x, String text) {
        return put(x, text).search();
    }

    static int rename(Counted x, int tier, int span, String label) {
        return put(x, label).rename(tier, span);
    }

    static String row(Counted x, int tier) {
        StringBuilder s = new StringBuilder();
        int spans = x.tier(tier, 3);
        for (int i = 0; i < spans; i++) {
            s.append(i == 0 ? "" : " ").append(x.span(tier, i, 0)).append('-').append(x.span(tier, i, 1)).append('=');
            int length = x.span(tier, i, 2);
            for (int j = 0; j < length; j++) {
                s.append(x.letter(tier, i, j));
            }
        }
        return s.toString();
    }

    /** Everything that changes can change, but for the labels and frames of the other annotator. */
    static String told(Counted x) {
        StringBuilder s = new StringBuilder();
        for (int what : new int[] {0, 1, 2, 3, 4, 6}) {
            s.append(x.book(what)).append(',');
        }
        int tiers = x.book(0);
        for (int tier = 0; tier < tiers; tier++) {
            s.append('[').append(x.tier(tier, 0)).append(x.tier(tier, 1)).append(x.tier(tier, 2)).append(' ');
            s.append(x.tier(tier, 5)).append(' ').append(row(x, tier)).append(']');
        }
        return s.toString();
    }

    /** What a call answers, or the exception that it throws. */
    static String answer(Call call) {
        try {
            return call.go() + " ";
        } catch (RuntimeException e) {
            return e.getClass().getSimpleName() + " ";
        }
    }

    /** What is told, with all that is neither undone nor saved. */
    static String all(Counted x) {
        return told(x) + " buffer " + x.book(5) + " pattern " + x.book(7) + " match " + answer(() -> x.match(0, 0))
            + answer(x::errorPosition) + answer(() -> x.refusal(true)) + answer(() -> x.refusal(false))
            + answer(x::refusedItem);
    }

    static String merge(Counted x, int tier) {
        StringBuilder s = new StringBuilder();
        int spans = x.merge(tier, 0);
        for (int i = 0; i < spans; i++) {
            s.append(i == 0 ? "" : " ").append(x.merged(tier, i, 0)).append('-').append(x.merged(tier, i, 1));
            s.append('/').append(x.merged(tier, i, 2));
        }
        return s.toString();
    }

    /** The matches of the latest pattern, with their items side by side. */
    static String matches(Counted x, int count) {
        StringBuilder s = new StringBuilder();
        int items = x.book(7);
        for (int match = 0; match < count; match++) {
            s.append(match == 0 ? "" : " ");
            for (int item = 0; item < items; item++) {
                s.append(item == 0 ? "" : "-").append(x.match(match, item));
            }
        }
        return s.toString();
    }

    /** A book with tiers of these kinds without rules. */
    static Counted book(int... kinds) {
        Counted x = new Counted();
        for (int kind : kinds) {
            x.addTier(kind, 0, 0);
        }
        return x;
    }

    static Counted signs() {
        return book(SIGNS);
    }

    /** A tier of signs, and one of words that depends on it by a rule. */
    static Counted ruled(int rule) {
        Counted x = signs();
        x.addTier(WORDS, rule, 0);
        return x;
    }

    /** A book with these spans of the annotator 0. */
    static Counted with(Counted x, String... texts) {
        for (String text : texts) {
            read(x, text);
        }
        return x;
    }

    /** 30 spans of one frame each, from the frame 0 on, at every step-th frame. */
    static Counted fill(Counted x, int tier, int step, String label) {
        for (int i = 0; i < 30; i++) {
            add(x, tier, i * step, i * step + 1, label);
        }
        return x;
    }

    /** A tier of signs with spans of both annotators, the annotator 1 being the present one. */
    static Counted both(String zero, String one) {
        Counted x = signs();
        if (!zero.isEmpty()) {
            read(x, zero);
        }
        x.select(1);
        if (!one.isEmpty()) {
            read(x, one);
        }
        return x;
    }

    static Counted full() {
        return fill(signs(), 0, 3, "a");
    }

    /** Three tiers, each inside the one before it, all with the same span, and more signs. */
    static Counted nested() {
        Counted x = ruled(1);
        x.addTier(HOLDS, 1, 1);
        return with(x, "0:10-20=a;0:30-40=b;0:50-60=c;1:10-20=w;1:30-40=v;2:10-20=l");
    }

    /** The matches of one span with another one. */
    static void links(String spans, String link, int gap, int due) {
        Counted x = with(book(WORDS, WORDS), spans);
        if (gap != x.book(3)) {
            x.setSetting(1, gap);
        }
        is(spans + " with " + link + " and gap " + gap, search(x, "0=*" + link + "1=*"), due);
    }

    static void merges(String zero, String one, String due, int conflicts, int dropped) {
        Counted x = both(zero, one);
        same("merge of " + zero + " and " + one, merge(x, 0), due);
        is("conflicts", x.merge(0, 1), conflicts);
        is("dropped", x.merge(0, 2), dropped);
    }
}
