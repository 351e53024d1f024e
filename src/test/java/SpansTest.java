import java.io.IOException;

/** Each sentence of the document's description from the tiers to the refusals, with calls that find it broken. */
public final class SpansTest extends Sentences {
    private static final int FAR = Integer.MAX_VALUE;
    private static final int DEEP = Integer.MIN_VALUE;

    private static void testTiers() {
        says("up to 6 tiers, numbered from 0 in the order in which they were added");
        Counted x = new Counted();
        for (int i = 0; i < 6; i++) {
            is("tier " + i, x.addTier(3 - i % 4, 0, 0), i);
            is("tiers", x.book(0), i + 1);
        }
        for (int i = 0; i < 6; i++) {
            is("kind of " + i, x.tier(i, 0), 3 - i % 4);
        }
        leaves(x, "a seventh tier", STATE, () -> x.addTier(0, 0, 0));
        fails("tier 6", INDEX, () -> x.tier(6, 0));
        says("A tier has a kind: 0 signs, 1 holds, 2 mouthings, 3 words");
        for (int kind = 0; kind < 4; kind++) {
            for (int of = 0; of < 4; of++) {
                Counted y = put(book(kind), LABELS[of]);
                boolean isName = kind == SIGNS || kind == WORDS;
                boolean isLabel = of == kind || isName && of != MOUTHINGS;
                fails(LABELS[of] + " for the kind " + kind, isLabel ? null : ARGUMENT, () -> y.addSpan(0, 0, 1));
            }
        }
        leaves(x, "kind -1", ARGUMENT, () -> x.addTier(-1, 0, 0));
        leaves(x, "kind 4", ARGUMENT, () -> x.addTier(4, 0, 0));
    }

    private static void testParents() {
        says("It has a rule from 0 to 3");
        for (int rule = 0; rule < 4; rule++) {
            is("rule " + rule, ruled(rule).tier(1, 1), rule);
        }
        Counted x = signs();
        leaves(x, "rule -1", ARGUMENT, () -> x.addTier(0, -1, 0));
        leaves(x, "rule 4", ARGUMENT, () -> x.addTier(0, 4, 0));
        says("unless the rule is 0, a parent");
        is("without", ruled(0).tier(1, 2), -1);
        for (int rule = 1; rule < 4; rule++) {
            is("with the rule " + rule, ruled(rule).tier(1, 2), 0);
        }
        says("which is a tier with a lower number");
        leaves(x, "its own number", INDEX, () -> x.addTier(0, 1, 1));
        leaves(x, "a higher number", INDEX, () -> x.addTier(0, 1, 2));
        leaves(x, "no number", INDEX, () -> x.addTier(0, 1, -1));
        is("the lowest number", x.addTier(0, 2, 0), 1);
        is("the number just below", x.addTier(0, 3, 1), 2);
        is("parent", x.tier(2, 2), 1);
    }

    /** A label wherever one is told: of a span, of an item of a text, of a part of a pattern. */
    private static void takes(int kind, String label) {
        Counted x = book(kind);
        is("adding '" + label + "'", add(x, 0, 0, 1, label), 0);
        same("span", row(x, 0), "0-1=" + label);
        is("renaming to '" + label + "'", rename(x, 0, 0, label), 0);
        is("reading '" + label + "'", read(x, "0:5-6=" + label), 1);
        is("searching '" + label + "'", search(x, "0=" + label), 2);
    }

    private static void takesNot(int kind, String label, int position) {
        String what = "'" + label + "' for the kind " + kind;
        Counted x = book(kind);
        malformed(x, "adding " + what, position, () -> add(x, 0, 0, 1, label));
        add(x, 0, 0, 1, LABELS[kind]);
        malformed(x, "renaming to " + what, position, () -> rename(x, 0, 0, label));
        malformed(x, "reading " + what, position + 6, () -> read(x, "0:5-6=" + label));
        if (!label.equals("*")) {
            malformed(x, "searching " + what, position + 2, () -> search(x, "0=" + label));
        }
    }

    private static void testLabels() {
        says("a name of 1 to 8 letters a to z");
        for (int kind : new int[] {SIGNS, WORDS}) {
            for (String name : new String[] {"a", "z", "az", "abcdefg", "abcdefgh", "zzzzzzzz"}) {
                takes(kind, name);
            }
            takesNot(kind, "", 0);
            takesNot(kind, "abcdefghi", 8);
            takesNot(kind, "aaaaaaaaaa", 8);
            takesNot(kind, "ab`", 2);
            takesNot(kind, "abcdefg{", 7);
            takesNot(kind, "a b", 1);
            testCharacters(kind, "abcdefghijklmnopqrstuvwxyz");
        }
        says("one of the letters l (left hand), r (right hand) and b (both hands)");
        testCharacters(HOLDS, "lrb");
        takesNot(HOLDS, "", 0);
        takesNot(HOLDS, "lr", 1);
        takesNot(HOLDS, "bb", 1);
        says("The label of a mouthing is a digit 0 to 9");
        testCharacters(MOUTHINGS, "0123456789");
        takesNot(MOUTHINGS, "", 0);
        takesNot(MOUTHINGS, "10", 1);
        takesNot(MOUTHINGS, "00", 1);
        testSameLabels();
    }

    /** Every character of the buffer alone. */
    private static void testCharacters(int kind, String labels) {
        for (char sign = 32; sign < 127; sign++) {
            if (labels.indexOf(sign) >= 0) {
                takes(kind, "" + sign);
            } else {
                takesNot(kind, "" + sign, 0);
            }
        }
    }

    private static void testSameLabels() {
        says("Labels are the same if they have the same kind and the same characters");
        String[][] pairs = {{"abc", "abc"}, {"abc", "abd"}, {"abc", "ab"}, {"ab", "abc"}, {"ab", "ba"}, {"a", "aa"},
            {"abcdefgh", "abcdefgh"}, {"abcdefgh", "abcdefgg"}, {"abcdefgh", "bbcdefgh"}, {"abcdefgh", "abcdffgh"}};
        for (String[] pair : pairs) {
            Counted x = signs();
            add(x, 0, 0, 1, pair[0]);
            add(x, 0, 1, 2, pair[1]);
            boolean isSame = pair[0].equals(pair[1]);
            is("labels of " + pair[0] + " and " + pair[1], x.tier(0, 7), isSame ? 1 : 2);
            is("renaming", rename(x, 0, 0, pair[1]), isSame ? 0 : 1);
        }
        Counted x = ruled(0);
        search(x, "1=a");
        x.undo();
        x.addTier(SIGNS, 0, 0);
        add(x, 1, 0, 1, "a");
        fails("a sign for a word with its characters", NONE, () -> x.match(0, 0));
    }

    private static void takesFrames(int first, int end) {
        Counted x = signs();
        is("adding " + first + "-" + end, add(x, 0, first, end, "a"), 0);
        same("span", row(x, 0), first + "-" + end + "=a");
        Counted y = with(signs(), "0:400-401=a");
        is("moving to " + first + "-" + end, y.moveSpan(0, 0, first, end), 0);
        same("span", row(y, 0), first + "-" + end + "=a");
        is("reading " + first + "-" + end, read(signs(), "0:" + first + "-" + end + "=a"), 1);
    }

    private static void takesNotFrames(int first, int end) {
        String what = first + "-" + end;
        Counted x = signs();
        refuses(x, "adding " + what, 1, 0, () -> add(x, 0, first, end, "a"));
        Counted y = with(signs(), "0:400-401=a");
        refuses(y, "moving to " + what, 1, 0, () -> y.moveSpan(0, 0, first, end));
        if (first >= 0 && first < 10000 && end >= 0 && end < 10000) {
            refuses(x, "reading " + what, 1, 0, () -> read(x, "0:" + what + "=a"));
        }
    }

    private static void testFrames() {
        says("a first frame from 0 to 999");
        takesFrames(0, 500);
        takesFrames(999, 1000);
        takesNotFrames(-1, 500);
        takesNotFrames(1000, 1001);
        takesNotFrames(DEEP, 1);
        takesNotFrames(FAR, FAR);
        says("and an end from 1 to 1000");
        takesFrames(0, 1);
        takesFrames(0, 1000);
        takesNotFrames(0, 0);
        takesNotFrames(0, 1001);
        takesNotFrames(-1, 0);
        takesNotFrames(0, FAR);
        takesNotFrames(0, DEEP);
        takesNotFrames(DEEP, FAR);
        says("which is greater than the first frame");
        takesFrames(500, 501);
        takesNotFrames(500, 500);
        takesNotFrames(500, 499);
        takesNotFrames(999, 1);
        takesNotFrames(FAR, DEEP);
        says("it consists of the frames from the first one on, but before the end");
        Counted x = with(signs(), "0:10-20=a");
        int[][] due = {{9, -1}, {10, 0}, {19, 0}, {20, -1}};
        for (int[] d : due) {
            is("span at " + d[0], x.spanAt(0, d[0]), d[1]);
        }
        is("frames", x.tier(0, 4), 10);
    }

    private static void testSpans() {
        says("Each of the annotators 0 and 1 has their own spans in each tier");
        Counted x = book(SIGNS, SIGNS);
        add(x, 0, 0, 9, "a");
        add(x, 1, 0, 9, "b");
        x.select(1);
        add(x, 0, 0, 9, "c");
        add(x, 1, 0, 9, "d");
        same("of 1", row(x, 0) + "," + row(x, 1), "0-9=c,0-9=d");
        x.select(0);
        same("of 0", row(x, 0) + "," + row(x, 1), "0-9=a,0-9=b");
        says("those of one annotator in one tier have no frame in common");
        Counted y = with(signs(), "0:10-20=a");
        int[][] meeting = {{10, 20}, {9, 11}, {19, 21}, {14, 15}, {0, 1000}, {10, 11}, {19, 20}};
        for (int[] f : meeting) {
            refuses(y, "adding " + f[0] + "-" + f[1], 2, 0, () -> add(y, 0, f[0], f[1], "b"));
        }
        is("touching in front", add(y, 0, 9, 10, "b"), 0);
        is("touching behind", add(y, 0, 20, 21, "b"), 2);
        says("numbered from 0 in ascending order of their first frames");
        Counted z = signs();
        int[][] added = {{40, 0}, {20, 0}, {0, 0}, {30, 2}, {10, 1}, {50, 5}};
        for (int[] a : added) {
            is("adding at " + a[0], add(z, 0, a[0], a[0] + 10, "a"), a[1]);
        }
        for (int i = 0; i < 6; i++) {
            is("first frame of " + i, z.span(0, i, 0), 10 * i);
        }
    }

    private static void testFull() {
        says("at most 30");
        Counted x = full();
        is("30 are there", x.tier(0, 3), 30);
        is("moving one of 30", x.moveSpan(0, 29, 600, 610), 29);
        is("renaming one of 30", rename(x, 0, 29, "b"), 1);
        refuses(x, "a 31st", 5, 0, () -> add(x, 0, 700, 701, "a"));
        Counted y = full();
        y.moveSpan(0, 29, 600, 610);
        refuses(y, "a part more", 5, 0, () -> y.split(0, 29, 605));
        Counted z = full();
        z.removeSpan(0, 0);
        refuses(z, "a text with one too many", 5, 0, () -> read(z, "0:700-701=a;0:800-801=a"));
        is("its item", z.refusedItem(), 1);
        is("a text with the 30th", read(z, "0:700-701=a"), 1);
        Counted w = full();
        w.addTier(SIGNS, 0, 0);
        is("another tier has its own", add(w, 1, 0, 1, "a"), 0);
        w.select(1);
        is("another annotator has their own", add(w, 0, 0, 1, "a"), 0);
        is("both together", w.book(4), 32);
        w.select(0);
        is("joined", w.join(0, 0), 29);
        is("there is room again", add(w, 0, 900, 901, "a"), 29);
    }

    private static void testPresent() {
        says("One of the annotators is the present one, at first 0");
        Counted x = new Counted();
        is("present", x.book(1), 0);
        is("former", x.select(1), 0);
        says("all calls are about their spans, where it is not said otherwise");
        Counted y = both("0:0-10=aaa;0:20-30=b", "0:50-51=c");
        is("spans", y.tier(0, 3), 1);
        is("frames", y.tier(0, 4), 1);
        is("labels", y.tier(0, 7), 1);
        is("span", y.span(0, 0, 0), 50);
        is("letter", y.letter(0, 0, 0), 'c');
        is("spanAt", y.spanAt(0, 5), -1);
        is("aligned", y.aligned(0, 0, 0), 0);
        is("alignment", y.alignment(0, 0, true), 1);
        is("search", search(y, "0=*"), 1);
        fails("a second match", NONE, () -> y.match(1, 0));
        fails("a second span to remove", INDEX, () -> y.removeSpan(0, 1));
        fails("to move", INDEX, () -> y.moveSpan(0, 1, 60, 61));
        fails("to rename", INDEX, () -> rename(y, 0, 1, "d"));
        fails("to split", INDEX, () -> y.split(0, 1, 25));
        fails("to join", INDEX, () -> y.join(0, 1));
        refuses(y, "joining with the other one's", 1, 0, () -> y.join(0, 0));
        y.moveSpan(0, 0, 0, 10);
        is("split", y.split(0, 0, 5), 2);
        is("join", y.join(0, 0), 1);
        is("remove", y.removeSpan(0, 0), 1);
        y.select(0);
        same("those of the other one", row(y, 0), "0-10=aaa 20-30=b");
    }

    /** Each row has frames for a guest of the host 10-20, and 1 where they are allowed. */
    private static void testHost(int rule, int[][] guests) {
        for (int[] g : guests) {
            String what = g[0] + "-" + g[1];
            Counted x = with(ruled(rule), "0:10-20=a");
            Counted y = with(ruled(rule), "0:10-20=a;1:10-20=w");
            if (g[2] == 1) {
                is("adding " + what, add(x, 1, g[0], g[1], "w"), 0);
                is("its host", x.span(1, 0, 3), 0);
                is("moving to " + what, y.moveSpan(1, 0, g[0], g[1]), 0);
                is("its host", y.span(1, 0, 3), 0);
            } else {
                refuses(x, "adding " + what, 3, 0, () -> add(x, 1, g[0], g[1], "w"));
                refuses(x, "reading " + what, 3, 0, () -> read(x, "1:" + what + "=w"));
                refuses(y, "moving to " + what, 3, 0, () -> y.moveSpan(1, 0, g[0], g[1]));
            }
        }
    }

    private static void testRules() {
        says("by the rule 1, the host contains all its frames");
        testHost(1, new int[][] {{10, 20, 1}, {10, 11, 1}, {19, 20, 1}, {9, 20, 0}, {10, 21, 0}, {9, 10, 0},
            {20, 21, 0}, {9, 21, 0}, {0, 1000, 0}});
        Counted x = with(ruled(1), "0:10-20=a;0:20-30=b");
        refuses(x, "inside two that touch", 3, 0, () -> add(x, 1, 19, 21, "w"));
        says("by the rule 2, the host has the same first frame and the same end");
        testHost(2, new int[][] {{10, 20, 1}, {10, 19, 0}, {10, 21, 0}, {9, 20, 0}, {11, 20, 0}, {11, 19, 0}});
        Counted y = with(ruled(2), "0:10-20=a;0:20-30=b");
        refuses(y, "the first frame of one and the end of the next one", 3, 0, () -> add(y, 1, 10, 30, "w"));
        says("by the rule 3, the host has the same first frame");
        testHost(3, new int[][] {{10, 20, 1}, {10, 11, 1}, {10, 1000, 1}, {9, 20, 0}, {11, 20, 0}, {9, 10, 0},
            {20, 30, 0}});
        says("A span of a tier with a parent must have a host");
        for (int rule = 1; rule < 4; rule++) {
            Counted z = ruled(rule);
            refuses(z, "without a host, rule " + rule, 3, 0, () -> add(z, 1, 10, 20, "w"));
        }
        is("by the rule 0 it needs none", add(ruled(0), 1, 10, 20, "w"), 0);
        testWhoseHost();
    }

    private static void testWhoseHost() {
        says("which is a span of the same annotator in the parent");
        Counted x = ruled(1);
        x.addTier(WORDS, 1, 1);
        x.addTier(WORDS, 1, 0);
        read(x, "0:10-20=a");
        refuses(x, "a span of the parent's parent", 3, 0, () -> add(x, 2, 10, 20, "w"));
        read(x, "3:10-20=b");
        refuses(x, "a span of another tier", 3, 0, () -> add(x, 2, 10, 20, "w"));
        is("of the parent", read(x, "1:10-20=c;2:10-20=d"), 2);
        x.select(1);
        refuses(x, "a span of the other annotator", 3, 0, () -> add(x, 1, 10, 20, "w"));
        says("A span has at most one host, as hosts have no frame in common");
        Counted y = with(ruled(1), "0:0-10=a;0:10-20=b;0:20-30=c;1:0-10=x;1:10-15=y;1:15-20=z;1:29-30=v");
        int[] hosts = {0, 1, 1, 2};
        for (int i = 0; i < hosts.length; i++) {
            is("host of " + i, y.span(1, i, 3), hosts[i]);
        }
        int[] guests = {1, 2, 1};
        for (int i = 0; i < guests.length; i++) {
            is("guests of " + i, y.span(0, i, 4), guests[i]);
        }
    }

    private static void testReasons() {
        says("1, the first frame or the end is out of range, or the end is not greater than the first frame");
        Counted x = nested();
        refuses(x, "the first frame", 1, 0, () -> x.moveSpan(0, 0, -1, 20));
        refuses(x, "the end", 1, 0, () -> add(x, 0, 70, 1001, "a"));
        refuses(x, "no frames", 1, 0, () -> add(x, 0, 70, 70, "a"));
        says("2, the span would have a frame in common with another one of the tier, the lowest one of which is told");
        Counted y = nested();
        refuses(y, "all three", 2, 0, () -> add(y, 0, 0, 100, "a"));
        refuses(y, "the last two", 2, 1, () -> add(y, 0, 39, 51, "a"));
        refuses(y, "the last one", 2, 2, () -> add(y, 0, 40, 51, "a"));
        refuses(y, "but for itself", 2, 1, () -> y.moveSpan(0, 0, 0, 100));
        says("3, it would have no host");
        Counted z = nested();
        refuses(z, "to add", 3, 0, () -> add(z, 1, 20, 30, "a"));
        refuses(z, "to move", 3, 0, () -> z.moveSpan(2, 0, 9, 20));
        refuses(z, "to join", 3, 0, () -> z.join(1, 0));
        Counted u = with(ruled(2), "0:10-20=a;1:10-20=w");
        refuses(u, "to split", 3, 0, () -> u.split(1, 0, 15));
        says("4, a span of another tier that depends on it would have no host any more");
        Counted v = nested();
        refuses(v, "to move", 4, 1, () -> v.moveSpan(0, 0, 10, 19));
        refuses(v, "to split", 4, 2, () -> v.split(1, 0, 15));
        Counted w = with(ruled(2), "0:10-20=a;0:20-30=b;1:10-20=w");
        refuses(w, "to join", 4, 1, () -> w.join(0, 0));
        says("5, there are 30 spans");
        Counted f = full();
        refuses(f, "to add", 5, 0, () -> add(f, 0, 700, 701, "a"));
    }

    /** 30 words of one frame each inside the sign 0-100, with room for more signs behind it. */
    private static Counted fullGuests() {
        Counted x = ruled(1);
        read(x, "0:0-100=a");
        return fill(x, 1, 3, "w");
    }

    private static void testOrderOfReasons() {
        says("The first one that applies counts");
        Counted x = fullGuests();
        refuses(x, "1 ahead of 2, 3 and 5", 1, 0, () -> add(x, 1, 0, 1001, "w"));
        Counted y = fullGuests();
        refuses(y, "2 ahead of 3 and 5", 2, 29, () -> add(y, 1, 87, 200, "w"));
        Counted z = fullGuests();
        refuses(z, "3 ahead of 5", 3, 0, () -> add(z, 1, 200, 201, "w"));
        Counted u = fullGuests();
        refuses(u, "5 alone", 5, 0, () -> add(u, 1, 98, 99, "w"));
        Counted v = nested();
        refuses(v, "1 ahead of 2, 3 and 4", 1, 0, () -> v.moveSpan(1, 0, 31, 1001));
        refuses(v, "2 ahead of 3 and 4", 2, 1, () -> v.moveSpan(1, 0, 39, 50));
        refuses(v, "3 ahead of 4", 3, 0, () -> v.moveSpan(1, 0, 70, 80));
        refuses(v, "4 alone", 4, 2, () -> v.moveSpan(1, 0, 11, 20));
        Counted w = nested();
        refuses(w, "3 ahead of 4 for a join", 3, 0, () -> w.join(1, 0));
        refuses(w, "1 ahead of 3 and 4 for a split", 1, 0, () -> w.split(1, 0, 20));
        Counted s = ruled(2);
        s.addTier(HOLDS, 2, 1);
        read(s, "0:10-20=a;1:10-20=w;2:10-20=l");
        refuses(s, "3 ahead of 4 for a split", 3, 0, () -> s.split(1, 0, 15));
        Counted t = full();
        t.addTier(WORDS, 2, 0);
        t.moveSpan(0, 29, 600, 610);
        add(t, 1, 600, 610, "w");
        refuses(t, "4 ahead of 5 for a split", 4, 1, () -> t.split(0, 29, 605));
    }

    private static void testLatestRefusal() {
        says("The latest refusal is kept with its reason and a number");
        Counted x = nested();
        refuses(x, "the other span", 2, 2, () -> add(x, 0, 50, 51, "a"));
        refuses(x, "a newer one", 1, 0, () -> add(x, 0, 50, 50, "a"));
        refuses(x, "and a newer one", 4, 1, () -> x.moveSpan(0, 1, 70, 80));
        add(x, 0, 90, 91, "a");
        fails("no span", INDEX, () -> x.moveSpan(0, 9, 0, 0));
        is("reason stays", x.refusal(true), 4);
        is("number stays", x.refusal(false), 1);
        says("which is the other span for the reason 2, the lowest tier with such a span for the reason 4, and otherwise 0");
        Counted y = signs();
        y.addTier(WORDS, 1, 0);
        y.addTier(HOLDS, 2, 0);
        y.addTier(MOUTHINGS, 3, 0);
        read(y, "0:0-9=z;0:10-20=a;1:12-13=w;2:10-20=l;3:10-11=1");
        refuses(y, "2", 2, 1, () -> add(y, 0, 19, 30, "b"));
        refuses(y, "3", 3, 0, () -> add(y, 1, 30, 31, "b"));
        refuses(y, "4, all three", 4, 1, () -> y.moveSpan(0, 1, 30, 40));
        Counted z = signs();
        z.addTier(HOLDS, 2, 0);
        z.addTier(MOUTHINGS, 3, 0);
        read(z, "0:0-9=z;0:10-20=a;2:10-11=1");
        refuses(z, "4, the last one alone", 4, 2, () -> z.moveSpan(0, 1, 11, 20));
        read(z, "1:10-20=l");
        refuses(z, "4, the first one alone", 4, 1, () -> z.moveSpan(0, 1, 10, 19));
        refuses(z, "1", 1, 0, () -> z.moveSpan(0, 1, 10, 10));
    }

    public static void main(String[] args) throws IOException {
        section("Tiers");
        testTiers();
        testParents();
        section("Labels");
        testLabels();
        section("Spans");
        testFrames();
        testSpans();
        testFull();
        testPresent();
        section("Rules");
        testRules();
        section("Refusals");
        testReasons();
        testOrderOfReasons();
        testLatestRefusal();
        endQuotes();
    }
}
