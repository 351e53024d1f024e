import java.io.IOException;

/** Each sentence of the promises 19 to 34, with calls that find it broken. */
public final class BookCallsTest extends Sentences {
    private static final String NO_TIER = "Throws `IndexOutOfBoundsException` if there is no such tier";
    private static final String BAD_WHAT = "Throws `IllegalArgumentException` if what is out of range";
    private static final String IF_MALFORMED =
        "Throws `IllegalArgumentException` if the text is malformed; the error position is then kept for errorPosition";

    private static void testAligned() {
        section("Promise 19");
        says("Returns what the alignment of a tier with another one gives a span");
        Counted x = with(book(SIGNS, WORDS), "0:0-10=a;0:100-110=b;0:200-210=c;1:105-115=x;1:195-205=y");
        is("back to the second one", x.aligned(1, 0, 0), 1);
        is("back to the third one", x.aligned(1, 0, 1), 2);
        x.setSetting(0, 9);
        is("not with a smaller window", x.aligned(0, 1, 1), -1);
        x.setSetting(0, 10);
        says("Returns the span of the other tier, or -1 for none");
        int[] due = {-1, 0, 1};
        for (int span = 0; span < due.length; span++) {
            is("given to " + span, x.aligned(0, 1, span), due[span]);
        }
        x.addTier(HOLDS, 0, 0);
        is("of a tier without spans", x.aligned(0, 2, 0), -1);
        says("the other tier, possibly the same");
        for (int span = 0; span < 3; span++) {
            is("itself", x.aligned(0, 0, span), span);
        }
        says("Throws `IndexOutOfBoundsException` if there is no such tier or span");
        failsOutside("tier", INDEX, 3, n -> x.aligned(n, 0, 0));
        failsOutside("other tier", INDEX, 3, n -> x.aligned(0, n, 0));
        failsOutside("span", INDEX, 3, n -> x.aligned(0, 1, n));
        failsOutside("span of the tier, not of the other one", INDEX, 2, n -> x.aligned(1, 0, n));
        failsOutside("span of a tier without any", INDEX, 0, n -> x.aligned(2, 0, n));
    }

    private static void testAlignment() {
        section("Promise 20");
        says("Returns a number of the alignment of a tier with another one");
        Counted x = with(book(SIGNS, WORDS), "0:0-10=a;0:100-110=b;0:200-210=c;1:105-115=x;1:195-206=y");
        is("pairs", x.alignment(0, 1, true), 2);
        says("the other tier, possibly the same");
        is("pairs with itself", x.alignment(0, 0, true), 3);
        is("their distances", x.alignment(0, 0, false), 0);
        says("true for the number of pairs, false for the sum of their distances");
        is("distances", x.alignment(0, 1, false), 19);
        is("pairs back", x.alignment(1, 0, true), 2);
        is("distances back", x.alignment(1, 0, false), 19);
        x.setSetting(0, 9);
        is("one pair", x.alignment(0, 1, true), 1);
        is("its distance", x.alignment(0, 1, false), 9);
        x.setSetting(0, 8);
        is("no pair", x.alignment(0, 1, true), 0);
        is("no distance", x.alignment(0, 1, false), 0);
        is("pairs of no spans", signs().alignment(0, 0, true), 0);
        is("distances of no spans", signs().alignment(0, 0, false), 0);
        Counted y = shifted();
        y.setSetting(0, 200);
        is("30 pairs as far as can be", y.alignment(0, 1, true), 30);
        is("their distances", y.alignment(0, 1, false), 6000);
        is("the last one", y.aligned(0, 1, 29), 29);
        y.setSetting(0, 199);
        is("29 pairs", y.alignment(0, 1, true), 29);
        is("their distances", y.alignment(0, 1, false), 29 * 160);
        is("the first one has none", y.aligned(0, 1, 0), -1);
        is("the last one has the last but one", y.aligned(0, 1, 29), 28);
        says(NO_TIER);
        failsOutside("tier", INDEX, 2, n -> x.alignment(n, 0, true));
        failsOutside("other tier", INDEX, 2, n -> x.alignment(0, n, false));
    }

    /** Two tiers of 30 spans, of which those of the second one are 100 frames behind. */
    private static Counted shifted() {
        Counted x = fill(book(SIGNS, WORDS), 0, 20, "a");
        for (int i = 0; i < 30; i++) {
            add(x, 1, 100 + 20 * i, 101 + 20 * i, "b");
        }
        return x;
    }

    private static void testSearch() {
        section("Promise 21");
        says("Makes the text in the input buffer the latest pattern");
        Counted x = with(signs(), "0:0-10=a;0:10-20=b");
        put(x, "0=a");
        put(x, ",0=b");
        is("matches", x.search(), 1);
        is("parts", x.book(7), 2);
        is("matches of a newer one", search(x, "0=b"), 1);
        is("parts", x.book(7), 1);
        is("its span", x.match(0, 0), 1);
        says("The buffer is empty afterwards in any case");
        is("behind a success", x.book(5), 0);
        fails("malformed", ARGUMENT, () -> search(x, "0=a,"));
        is("behind a malformed one", x.book(5), 0);
        says("The pattern stays, with the tiers as they are when it is asked");
        search(x, "0=b");
        x.removeSpan(0, 0);
        is("behind a removal", x.match(0, 0), 0);
        rename(x, 0, 0, "c");
        fails("behind a renaming", NONE, () -> x.match(0, 0));
        x.undo();
        is("behind an undo", x.match(0, 0), 0);
        x.select(1);
        fails("of the other annotator", NONE, () -> x.match(0, 0));
        is("parts", x.book(7), 1);
        says(IF_MALFORMED);
        malformed(x, "empty", 0, x::search);
        malformed(x, "a text of spans", 1, () -> search(x, "0:0-10=a"));
        malformed(x, "behind the text", 3, () -> search(x, "0=c;"));
        is("the former one stays", x.book(7), 1);
        testManyMatches();
    }

    private static void testManyMatches() {
        says("Returns the number of its matches, or 1000 if there are more");
        is("none", search(signs(), "0=*"), 0);
        Counted one = with(signs(), "0:0-1=a");
        is("one", search(one, "0=*"), 1);
        Counted x = nearly(11, 1);
        is("999", search(x, "0=*,1=*,2=*"), 999);
        is("the last one", x.match(998, 2), 10);
        fails("none behind it", NONE, () -> x.match(999, 0));
        Counted y = nearly(10, 10);
        is("1000", search(y, "0=*,1=*,2=*"), 1000);
        is("the last one", y.match(999, 1), 9);
        fails("none behind it", NONE, () -> y.match(1000, 0));
        Counted z = signs();
        for (int i = 0; i < 14; i++) {
            add(z, 0, i, i + 1, "a");
        }
        is("1001", search(z, "0=*,0=*,0=*,0=*"), 1000);
        is("the last one that is told", z.match(999, 0), 9);
        fails("the last one", NONE, () -> z.match(1000, 0));
        Counted many = full();
        many.setSetting(1, 200);
        is("27405", search(many, "0=a,0=a,0=a,0=a"), 1000);
        is("30", search(many, "0=a&0=a&0=a&0=a"), 30);
        is("435", search(many, "0=*,0=*"), 435);
    }

    /**
     * Three tiers one behind the other: 10 spans, 10 spans, and as many spans as told. All are linked, but the first one
     * of the second tier, which is linked with as many of the third one as told, and with one less of the first one
     * if these are not all.
     */
    private static Counted nearly(int third, int linked) {
        Counted x = book(WORDS, WORDS, WORDS);
        x.setSetting(1, 100);
        boolean isAll = linked == third;
        for (int i = 0; i < 10; i++) {
            int first = i < 9 ? i : 20;
            add(x, 0, first, first + 1, "a");
            int second = i > 0 ? 29 + i : isAll ? 29 : 15;
            add(x, 1, second, second + 1, "b");
        }
        for (int i = 0; i < third; i++) {
            int first = i < linked ? 50 + i : 116 + i;
            add(x, 2, first, first + 1, "c");
        }
        return x;
    }

    private static void testMatch() {
        section("Promise 22");
        says("Returns a span of a match of the latest pattern, as the spans are now");
        Counted x = with(signs(), "0:0-10=a;0:10-20=b;0:30-40=a");
        same("matches", matches(x, search(x, "0=*,0=a")), "0-2 1-2");
        x.setSetting(1, 19);
        same("with another gap", matches(x, 1), "1-2");
        fails("no more of them", NONE, () -> x.match(1, 0));
        x.removeSpan(0, 0);
        same("without the first span", matches(x, 1), "0-1");
        fails("a second match", NONE, () -> x.match(1, 0));
        x.moveSpan(0, 1, 0, 5);
        fails("with the spans the other way round", NONE, () -> x.match(0, 0));
        says("the match, 0 to 999");
        Counted many = full();
        many.setSetting(1, 200);
        search(many, "0=*,0=*,0=*");
        is("match 0", many.match(0, 2), 2);
        is("match 999", many.match(999, 2), 14);
        failsOutside("match", NONE, 1000, n -> many.match(n, 0));
        says("Throws `IllegalStateException` if there is no pattern");
        Counted y = with(signs(), "0:0-10=a");
        leaves(y, "match", STATE, () -> y.match(0, 0));
        fails("match of no item", STATE, () -> y.match(0, 9));
        fails("malformed", ARGUMENT, () -> search(y, "0=a,"));
        leaves(y, "match behind a malformed one", STATE, () -> y.match(0, 0));
        search(y, "0=a");
        is("match", y.match(0, 0), 0);
        y.clear();
        fails("match behind clear", STATE, () -> y.match(0, 0));
        says("Throws `NoSuchElementException` if there is no such match or item");
        Counted z = with(signs(), "0:0-10=a;0:10-20=b");
        search(z, "0=*&0=*");
        failsOutside("match", NONE, 2, n -> z.match(n, 0));
        failsOutside("item", NONE, 2, n -> z.match(0, n));
        search(z, "0=c");
        fails("none at all", NONE, () -> z.match(0, 0));
    }

    private static void merges(String zero, String one, int... due) {
        Counted x = both(zero, one);
        for (int what = 0; what < due.length; what++) {
            is("merge of " + zero + " and " + one + ", " + what, x.merge(0, what), due[what]);
        }
    }

    private static void testMerge() {
        section("Promise 23");
        says("Returns a number of the merge of a tier");
        Counted x = both("0:0-10=a", "0:5-15=a");
        x.addTier(WORDS, 0, 0);
        is("of this tier", x.merge(0, 0), 1);
        is("of the other tier", x.merge(1, 0), 0);
        says("0 for the spans of the result, 1 for the conflicts, 2 for the spans that were dropped");
        says("3 for the spans with both annotators as sources, 4 for the frames of the result");
        merges("", "", 0, 0, 0, 0, 0);
        merges("0:0-1000=a", "", 1, 0, 0, 0, 1000);
        merges("0:0-1000=a", "0:0-1000=a", 1, 0, 0, 1, 1000);
        merges("0:0-1000=a", "0:0-1000=b", 1, 1, 1, 0, 1000);
        merges("0:0-999=a", "0:0-1000=b", 2, 1, 0, 0, 1000);
        merges("0:0-10=a;0:20-30=b;0:40-50=c", "0:5-15=x;0:25-35=b;0:42-45=x", 4, 2, 1, 1, 40);
        Counted full = full();
        full.select(1);
        for (int i = 0; i < 30; i++) {
            add(full, 0, 3 * i + 1, 3 * i + 2, "a");
        }
        is("60 spans", full.merge(0, 0), 60);
        is("60 frames", full.merge(0, 4), 60);
        is("no conflicts", full.merge(0, 1), 0);
        Counted over = full();
        over.select(1);
        read(over, "0:0-1000=b");
        is("one long one over 30", over.merge(0, 0), 2);
        is("its conflicts", over.merge(0, 1), 30);
        is("29 dropped", over.merge(0, 2), 29);
        is("all frames", over.merge(0, 4), 1000);
        says(NO_TIER);
        failsOutside("tier", INDEX, 2, n -> x.merge(n, 0));
        says(BAD_WHAT);
        failsOutside("what", ARGUMENT, 5, n -> x.merge(0, n));
    }

    private static void testMerged() {
        section("Promise 24");
        says("Returns a number of a span of the result of a merge");
        says("0 for its first frame, 1 for its end, 2 for its sources, as a bit mask, 3 for the length of its label");
        Counted x = both("0:0-10=abc;0:30-40=d;0:999-1000=q", "0:5-15=abcdefgh;0:35-50=d");
        int[][] due = {{0, 10, 1, 3}, {10, 15, 2, 8}, {30, 50, 3, 1}, {999, 1000, 1, 1}};
        for (int present = 0; present < 2; present++) {
            x.select(present);
            for (int index = 0; index < due.length; index++) {
                for (int what = 0; what < 4; what++) {
                    is("merged(0, " + index + ", " + what + ")", x.merged(0, index, what), due[index][what]);
                }
            }
        }
        says("the index of the span, from 0");
        Counted full = full();
        full.select(1);
        for (int i = 0; i < 30; i++) {
            add(full, 0, 3 * i + 1, 3 * i + 2, "a");
        }
        is("the first one", full.merged(0, 0, 0), 0);
        is("the 60th one", full.merged(0, 59, 0), 88);
        failsOutside("index", NONE, 60, n -> full.merged(0, n, 0));
        says(NO_TIER);
        failsOutside("tier", INDEX, 1, n -> x.merged(n, 0, 0));
        says("Throws `NoSuchElementException` if there is no such index");
        failsOutside("index", NONE, 4, n -> x.merged(0, n, 0));
        failsOutside("index of no spans", NONE, 0, n -> signs().merged(0, n, 0));
        says(BAD_WHAT);
        failsOutside("what", ARGUMENT, 4, n -> x.merged(0, 3, n));
    }

    private static void framesOf(String zero, String one, int... due) {
        Counted x = both(zero, one);
        for (int what = 0; what < due.length; what++) {
            is("frames of " + zero + " and " + one + ", " + what, x.frames(0, what), due[what]);
        }
    }

    private static void testFrames() {
        section("Promise 25");
        says("Returns a number about the frames of a tier");
        Counted x = both("0:0-10=a;0:20-30=b;0:30-35=c", "0:5-25=a;0:28-33=c");
        x.addTier(WORDS, 0, 0);
        is("of the other tier", x.frames(1, 4), 0);
        says("0 for the frames to which the annotator 0 gives a label, 1 for those of the annotator 1");
        is("0", x.frames(0, 0), 25);
        x.select(0);
        is("1", x.frames(0, 1), 25);
        says("2 for the frames to which both give the same label, 3 for those to which both give labels");
        is("same label", x.frames(0, 2), 8);
        is("labels", x.frames(0, 3), 15);
        says("4 for those to which at least one gives a label");
        is("at least one", x.frames(0, 4), 35);
        framesOf("", "", 0, 0, 0, 0, 0);
        framesOf("0:0-10=a", "", 10, 0, 0, 0, 10);
        framesOf("", "0:0-10=a", 0, 10, 0, 0, 10);
        framesOf("0:0-10=a", "0:10-20=a", 10, 10, 0, 0, 20);
        framesOf("0:0-10=a", "0:9-20=a", 10, 11, 1, 1, 20);
        framesOf("0:0-10=a", "0:9-20=b", 10, 11, 0, 1, 20);
        framesOf("0:0-1000=a", "0:0-1000=a", 1000, 1000, 1000, 1000, 1000);
        framesOf("0:0-1000=a", "0:0-1=a;0:999-1000=b", 1000, 2, 1, 2, 1000);
        framesOf("0:0-500=a;0:500-1000=b", "0:0-499=a;0:499-1000=b", 1000, 1000, 999, 1000, 1000);
        says(NO_TIER);
        failsOutside("tier", INDEX, 2, n -> x.frames(n, 0));
        says(BAD_WHAT);
        failsOutside("what", ARGUMENT, 5, n -> x.frames(0, n));
    }

    private static void testAgreement() {
        section("Promise 26");
        says("the share of the frames to which both give the same label among those to which at least one gives a label");
        is("all", both("0:0-1000=a", "0:0-1000=a").agreement(0), 1);
        is("one frame", both("0:999-1000=a", "0:999-1000=a").agreement(0), 1);
        is("none", both("0:0-10=a", "0:0-10=b").agreement(0), 0);
        is("none in common", both("0:0-10=a", "0:10-20=a").agreement(0), 0);
        is("of 0 alone", both("0:0-10=a", "").agreement(0), 0);
        is("of 1 alone", both("", "0:0-10=a").agreement(0), 0);
        is("a half", both("0:0-10=a", "0:0-10=a;0:10-20=b").agreement(0), 0.5);
        Counted x = both("0:0-10=a", "0:5-15=a");
        is("a third", x.agreement(0), 5f / 15f);
        x.select(0);
        is("whoever is present", x.agreement(0), 5f / 15f);
        says("both converted to float");
        for (int part = 1; part <= 1000; part += 37) {
            is(part + " of 1000", both("0:0-1000=a", "0:0-" + part + "=a").agreement(0), (float) part / 1000f);
        }
        is("1 of 3", both("0:0-3=a", "0:0-1=a").agreement(0), (float) 1 / (float) 3);
        says(NO_TIER);
        failsOutside("tier", INDEX, 1, x::agreement);
        says("Throws `ArithmeticException` if there are no such frames");
        Counted y = both("0:0-10=a", "0:0-10=a");
        y.removeSpan(0, 0);
        is("one alone", y.agreement(0), 0);
        y.select(0);
        y.removeSpan(0, 0);
        leaves(y, "none", ARITHMETIC, () -> y.agreement(0));
    }

    private static void agrees(String zero, String one, int same, int products) {
        double p = (double) same / 1000;
        double c = (double) products / 1000000;
        is("kappa of " + zero + " and " + one, both(zero, one).kappa(0), (p - c) / (1 - c));
    }

    private static void testKappa() {
        section("Promise 27");
        says("Returns the agreement beyond chance, where no label counts as a label");
        agrees("0:0-10=a", "0:5-15=a", 990, 10 * 10 + 990 * 990);
        agrees("0:0-10=a", "0:0-10=a", 1000, 10 * 10 + 990 * 990);
        agrees("0:0-10=a", "0:0-10=b", 990, 990 * 990);
        agrees("0:0-10=a", "", 990, 990 * 1000);
        agrees("", "0:0-10=a", 990, 990 * 1000);
        agrees("0:0-1000=a", "", 0, 0);
        agrees("0:0-1000=a", "0:0-1000=b", 0, 0);
        agrees("0:0-500=a;0:500-1000=b", "0:0-500=b;0:500-1000=a", 0, 500 * 500 * 2);
        agrees("0:0-500=a;0:500-1000=b", "0:0-500=a;0:500-1000=b", 1000, 500 * 500 * 2);
        says("c is the sum, over all labels, of the products of the numbers of frames to which the annotators give it");
        agrees("0:0-100=a;0:200-400=a;0:400-500=b", "0:0-300=a;0:900-950=a;0:300-350=b", 650,
            300 * 350 + 100 * 50 + 600 * 600);
        agrees("0:0-7=a;0:7-20=b;0:20-39=c", "0:0-3=a;0:3-20=b;0:20-43=d", 3 + 13 + 957, 7 * 3 + 13 * 17 + 961 * 957);
        says(NO_TIER);
        failsOutside("tier", INDEX, 1, n -> both("0:0-1=a", "").kappa(n));
        says("Throws `ArithmeticException` if c is 1");
        Counted x = signs();
        leaves(x, "no label at all", ARITHMETIC, () -> x.kappa(0));
        Counted y = both("0:0-1000=a", "0:0-400=a;0:400-1000=a");
        leaves(y, "one label alone", ARITHMETIC, () -> y.kappa(0));
        agrees("0:0-1000=a", "0:0-999=a", 999, 999 * 1000);
        agrees("0:0-999=a;0:999-1000=b", "0:0-1000=a", 999, 999 * 1000);
        agrees("0:0-1=a", "", 999, 999 * 1000);
        agrees("0:999-1000=a", "0:0-1=a", 998, 1 + 999 * 999);
    }

    private static void testIsConsistent() {
        section("Promise 28");
        says("Counts once more whether, for both annotators, spans of a tier have no frame in common and are in order");
        Counted x = signs();
        for (int tier = 1; tier < 6; tier++) {
            x.addTier(WORDS, (tier - 1) % 4, (tier - 1) / 2);
        }
        Call[] calls = {() -> read(x, "0:0-20=a;0:20-40=b;1:0-9=w;2:0-20=v"), () -> read(x, "3:0-9=u;4:0-9=t;5:0-1=s"),
            () -> x.select(1), () -> read(x, "0:0-1000=a;2:1-999=r"), () -> x.split(0, 0, 999), () -> x.select(0),
            () -> x.moveSpan(0, 1, 50, 60), () -> x.join(0, 0), () -> x.split(0, 0, 30), () -> x.removeSpan(0, 0), x::undo,
            () -> x.undo(), x::snapshot, x::restore, () -> rename(x, 0, 0, "z"), () -> x.removeSpan(0, 0)};
        says("Returns whether all of that is so");
        is("of a new object", new Counted().isConsistent() ? 1 : 0, 1);
        for (int i = 0; i < calls.length; i++) {
            try {
                calls[i].go();
            } catch (RuntimeException e) {
                // A refused change leaves all as it should be, too.
            }
            is("behind the call " + i, x.isConsistent() ? 1 : 0, 1);
        }
        says("each span has a host where its rule demands one, and the frames of a tier add up to those of its spans");
        is("a host whose end is its guest's", with(ruled(1), "0:0-1000=a;1:999-1000=w").isConsistent() ? 1 : 0, 1);
        is("all frames in one span", with(signs(), "0:0-1000=a").isConsistent() ? 1 : 0, 1);
        is("30 spans", full().isConsistent() ? 1 : 0, 1);
    }

    private static void testRead() {
        section("Promise 29");
        says("Adds the spans of the text in the input buffer, one after the other, all of them or none");
        Counted x = ruled(1);
        is("a host first", read(x, "0:10-20=a;1:10-11=w;0:0-5=b"), 3);
        same("spans", row(x, 0) + "," + row(x, 1), "0-5=b 10-20=a,10-11=w");
        refuses(x, "a guest first", 3, 0, () -> read(x, "1:30-31=w;0:30-40=c"));
        refuses(x, "the last one of many", 2, 6, () -> read(x, "0:30-31=c;0:40-41=d;0:50-51=e;0:60-61=f;0:70-71=g;0:70-72=h"));
        is("one change", x.book(6), 3);
        is("undo of all three", x.undo(), 2);
        is("spans", x.book(4), 0);
        says("The buffer is empty afterwards in any case");
        is("behind a refusal", x.book(5), 0);
        read(x, "0:0-1=a");
        is("behind a success", x.book(5), 0);
        fails("malformed", ARGUMENT, () -> read(x, "0:0-1=a;"));
        is("behind a malformed one", x.book(5), 0);
        says("Returns the number of spans");
        is("one", read(signs(), "0:0-1=a"), 1);
        is("two of two tiers", read(book(SIGNS, WORDS), "0:0-1=a;1:0-1=a"), 2);
        String twelve = "0:0-1=a;0:1-2=b;0:2-3=c;0:3-4=d;0:4-5=e;0:5-6=f;0:6-7=g;0:7-8=h;0:8-9=i;0:9-10=j;0:10-11=k;0:11-12=l";
        Counted y = put(signs(), twelve);
        is("a full buffer", y.book(5), 100);
        is("twelve", y.read(), 12);
        is("spans", y.tier(0, 3), 12);
        says(IF_MALFORMED);
        Counted z = signs();
        malformed(z, "empty", 0, z::read);
        malformed(z, "a pattern", 1, () -> read(z, "0=a"));
        malformed(z, "behind the last item", 7, () -> read(z, "0:0-1=a,"));
        malformed(z, "ahead of what would be refused", 11, () -> read(z, "0:5-5=a;0:0=b"));
        fails("nothing was refused", NONE, () -> z.refusal(true));
        testReadRefused();
    }

    private static void testReadRefused() {
        says("if one of them is refused; the number of this item, counted from 0, is then kept for refusedItem");
        String[] items = {"0:0-1=a", "0:1-2=b", "0:2-3=c", "0:3-4=d", "0:4-5=e", "0:5-6=f", "0:6-7=g", "0:7-8=h", "0:8-9=i"};
        for (int refused = 0; refused < items.length; refused++) {
            Counted x = with(signs(), "0:500-600=z");
            StringBuilder text = new StringBuilder();
            for (int i = 0; i < items.length; i++) {
                text.append(i == 0 ? "" : ";").append(i == refused ? "0:550-551=x" : items[i]);
            }
            refuses(x, "item " + refused, 2, refused, () -> read(x, text.toString()));
            is("refused item", x.refusedItem(), refused);
        }
        Counted y = fill(signs(), 0, 3, "a");
        y.removeSpan(0, 0);
        refuses(y, "the second one is the 31st", 5, 0, () -> read(y, "0:500-501=a;0:501-502=b"));
        is("refused item", y.refusedItem(), 1);
    }

    private static void testErrorPosition() {
        section("Promise 30");
        says("of the last text that was malformed, of spans, of a pattern or of a label, whatever was read after it");
        Counted x = with(signs(), "0:0-5=a");
        malformed(x, "a label", 1, () -> add(x, 0, 10, 20, "a1"));
        malformed(x, "a text", 3, () -> read(x, "0:1"));
        malformed(x, "a pattern", 2, () -> search(x, "0=1"));
        malformed(x, "a new label", 0, () -> rename(x, 0, 0, "1"));
        malformed(x, "a longer text", 14, () -> read(x, "0:10-20=b;0:11+"));
        read(x, "0:10-20=b");
        search(x, "0=a");
        rename(x, 0, 0, "c");
        add(x, 0, 30, 40, "d");
        fails("refused", REFUSED, () -> read(x, "0:0-0=a"));
        x.undo();
        x.snapshot();
        x.restore();
        is("stays", x.errorPosition(), 14);
        x.clear();
        is("stays behind clear", x.errorPosition(), 14);
        says("Returns the error position");
        malformed(x, "the lowest one", 0, () -> read(x, "?"));
        Counted long100 = put(signs(), "0:0-1=a;".repeat(12) + "0:0-");
        malformed(long100, "the highest one", 100, long100::read);
        says("For a label, it is found as for a text that must consist of a label alone");
        String[] texts = {"", "abcdefghi", "abcdefgh ", "ab;", "ab=", "*", "0:0-1=a"};
        int[] positions = {0, 8, 8, 2, 2, 0, 0};
        for (int i = 0; i < texts.length; i++) {
            String text = texts[i];
            Counted y = signs();
            malformed(y, "the label '" + text + "'", positions[i], () -> add(y, 0, 0, 1, text));
        }
        Counted full = put(signs(), "a".repeat(100));
        malformed(full, "a full buffer", 8, () -> full.addSpan(0, 0, 1));
        Counted digits = put(book(MOUTHINGS), "9".repeat(100));
        malformed(digits, "a full buffer of digits", 1, () -> digits.addSpan(0, 0, 1));
        says("Throws `NoSuchElementException` if there was none");
        Counted z = with(signs(), "0:0-5=a");
        search(z, "0=*");
        fails("refused", REFUSED, () -> read(z, "0:0-1001=a"));
        fails("no tier", INDEX, () -> add(z, 1, 0, 1, "?"));
        leaves(z, "errorPosition", NONE, z::errorPosition);
    }

    private static void testRefusedItem() {
        section("Promise 31");
        says("the number of the item for which the last text was refused, whatever was read after it");
        Counted x = signs();
        refuses(x, "the third item", 2, 0, () -> read(x, "0:0-1=a;0:1-2=b;0:0-2=c;0:0-2=d"));
        is("item", x.refusedItem(), 2);
        refuses(x, "the first item", 1, 0, () -> read(x, "0:0-0=a;0:1-2=b;0:0-2=c"));
        is("item", x.refusedItem(), 0);
        refuses(x, "the second item", 2, 0, () -> read(x, "0:0-1=a;0:0-2=c"));
        read(x, "0:0-1=a");
        fails("malformed", ARGUMENT, () -> read(x, "0:0-1=a;0:1-2=a;?"));
        fails("a refused span", REFUSED, () -> add(x, 0, 0, 1, "a"));
        x.undo();
        x.snapshot();
        x.restore();
        is("item", x.refusedItem(), 1);
        x.clear();
        is("item behind clear", x.refusedItem(), 1);
        says("Returns the number of the item");
        Counted last = signs();
        refuses(last, "the last one of a full buffer", 1, 0, () -> read(last, "0:0-1=a;0:1-2=b;0:2-3=c;0:3-4=d;0:4-5=e;0:5-6=f;"
            + "0:6-7=g;0:7-8=h;0:8-9=i;0:9-10=j;0:10-11=k;0:11-11=l"));
        is("item", last.refusedItem(), 11);
        says("Throws `NoSuchElementException` if there was none");
        Counted y = with(signs(), "0:0-1=a");
        fails("a refused span is no text", REFUSED, () -> add(y, 0, 0, 1, "a"));
        fails("a refused move is none", REFUSED, () -> y.moveSpan(0, 0, 1, 1));
        fails("a malformed text is not refused", ARGUMENT, () -> read(y, "0:0-1=a;?"));
        leaves(y, "refusedItem", NONE, y::refusedItem);
    }

    private static void testUndo() {
        section("Promise 32");
        says("Undoes the last change that can be undone");
        Counted x = with(signs(), "0:0-10=a");
        x.select(1);
        read(x, "0:0-10=b;0:10-20=c");
        x.moveSpan(0, 0, 30, 40);
        x.undo();
        same("the move", row(x, 0), "0-10=b 10-20=c");
        x.undo();
        same("the text", row(x, 0), "");
        x.undo();
        same("the annotator, with their spans", row(x, 0), "0-10=a");
        x.undo();
        same("the first text", row(x, 0), "");
        x.undo();
        is("the tier", x.book(0), 0);
        says("Returns the number of changes that can still be undone");
        Counted y = new Counted();
        for (int i = 0; i < 20; i++) {
            y.select(0);
        }
        for (int left = 7; left >= 0; left--) {
            is("left", y.undo(), left);
            is("changes", y.book(6), left);
        }
        says("Throws `IllegalStateException` if there is none");
        leaves(y, "the ninth", STATE, y::undo);
        leaves(x, "the sixth of five", STATE, x::undo);
        Counted z = new Counted();
        leaves(z, "of a new object", STATE, z::undo);
        z.select(1);
        z.clear();
        leaves(z, "behind clear", STATE, z::undo);
        z.select(1);
        z.snapshot();
        z.restore();
        leaves(z, "behind restore", STATE, z::undo);
        z.select(0);
        is("one since then", z.undo(), 0);
    }

    /** Two tiers with spans of both annotators, and other settings. */
    private static Counted told() {
        Counted x = with(ruled(1), "0:0-10=a;1:0-5=w");
        x.setSetting(0, 1);
        x.setSetting(1, 2);
        x.select(1);
        return with(x, "0:20-30=b;1:25-30=v");
    }

    private static String both(Counted x) {
        StringBuilder s = new StringBuilder();
        for (int what = 0; what < 5; what++) {
            s.append(x.book(what)).append(' ');
        }
        int present = x.book(1);
        for (int annotator = 0; annotator < 2; annotator++) {
            x.select(annotator);
            for (int tier = 0; tier < x.book(0); tier++) {
                s.append(x.tier(tier, 0)).append(x.tier(tier, 1)).append(x.tier(tier, 2)).append(row(x, tier)).append(' ');
            }
        }
        x.select(present);
        return s.toString();
    }

    private static void testSnapshot() {
        section("Promise 33");
        says("Takes a snapshot of everything that changes can change");
        Counted x = told();
        x.snapshot();
        is("is no change", x.book(6), 7);
        x.clear();
        x.restore();
        same("all", both(x), both(told()));
        says("It replaces an earlier one");
        Counted y = told();
        y.snapshot();
        y.select(0);
        y.removeSpan(0, 0);
        y.snapshot();
        is("can be undone behind it", y.undo(), 7);
        y.restore();
        is("spans", y.book(4), 2);
        is("annotator", y.book(1), 0);
        same("without those that were removed", row(y, 0) + row(y, 1), "");
        says("Returns the number of tiers");
        for (int tiers = 0; tiers <= 6; tiers++) {
            is("tiers", book(new int[tiers]).snapshot(), tiers);
        }
    }

    private static void testRestore() {
        section("Promise 34");
        says("Restores all that from the snapshot, which stays available");
        Counted x = told();
        x.snapshot();
        for (int times = 0; times < 3; times++) {
            x.removeSpan(0, 0);
            x.select(0);
            x.addTier(HOLDS, 0, 0);
            x.split(0, 0, 6);
            rename(x, 0, 0, "z");
            x.setSetting(0, 100);
            x.setSetting(1, 100);
            is("restore", x.restore(), 2);
            same("all", both(x), both(told()));
        }
        x.clear();
        is("restore behind clear", x.restore(), 2);
        same("all", both(x), both(told()));
        Counted none = new Counted();
        none.snapshot();
        none.addTier(SIGNS, 0, 0);
        none.select(1);
        is("of no tiers", none.restore(), 0);
        is("annotator", none.book(1), 0);
        says("After that no changes can be undone");
        Counted y = told();
        y.snapshot();
        y.select(0);
        y.restore();
        is("changes", y.book(6), 0);
        leaves(y, "undo", STATE, y::undo);
        y.select(0);
        is("a new one", y.book(6), 1);
        is("undo", y.undo(), 0);
        is("annotator", y.book(1), 1);
        says("Returns the number of tiers");
        for (int tiers = 0; tiers <= 6; tiers++) {
            Counted z = book(new int[tiers]);
            z.snapshot();
            z.clear();
            is("tiers", z.restore(), tiers);
        }
        says("Throws `IllegalStateException` if there is no snapshot");
        Counted z = signs();
        leaves(z, "restore", STATE, z::restore);
        is("changes", z.book(6), 1);
        z.snapshot();
        z.clear();
        is("the snapshot stays behind clear", z.restore(), 1);
    }

    public static void main(String[] args) throws IOException {
        testAligned();
        testAlignment();
        testSearch();
        testMatch();
        testMerge();
        testMerged();
        testFrames();
        testAgreement();
        testKappa();
        testIsConsistent();
        testRead();
        testErrorPosition();
        testRefusedItem();
        testUndo();
        testSnapshot();
        testRestore();
        endQuotes();
    }
}
