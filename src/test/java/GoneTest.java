/**
 * What is gone counts nowhere any more: a book from which spans or tiers have gone, whichever way, answers all that can
 * be asked as a book does that never had them.
 */
public final class GoneTest extends Checks {
    /** What each annotator tells. */
    private static final String[] FIRST = {"0:2-12=a;0:20-30=b;1:2-12=a;1:21-30=b", "0:4-15=a;0:18-30=b;1:5-12=a;1:21-30=b"};
    /** Behind all others in each tier, so that they leave free places behind the ones that stay. */
    private static final String[] LAST = {"0:500-600=a;1:500-600=a", "0:510-620=a;1:520-600=a"};

    private static Counted told(String[]... texts) {
        Counted x = ruled(1);
        for (int annotator = 0; annotator < 2; annotator++) {
            x.select(annotator);
            for (String[] text : texts) {
                read(x, text[annotator]);
            }
        }
        return x;
    }

    private static String ofTier(Counted x, int tier) {
        StringBuilder s = new StringBuilder("[" + row(x, tier) + "; ");
        for (int what = 0; what < 8; what++) {
            s.append(x.tier(tier, what)).append(' ');
        }
        for (int frame : new int[] {-1, 0, 11, 12, 29, 500, 599, 999}) {
            s.append(x.spanAt(tier, frame)).append(' ');
        }
        for (int what = 0; what < 5; what++) {
            s.append(x.frames(tier, what)).append(' ').append(x.merge(tier, what)).append(' ');
        }
        s.append(answer(() -> x.agreement(tier))).append(answer(() -> x.kappa(tier)));
        s.append(merge(x, tier)).append(" matches ").append(matches(x, search(x, tier + "=*"))).append(' ');
        int spans = x.tier(tier, 3);
        for (int span = 0; span < spans; span++) {
            s.append(x.span(tier, span, 3)).append(x.span(tier, span, 4)).append(' ');
        }
        return s.append("]").toString();
    }

    private static String ofTiers(Counted x, int tier, int other) {
        StringBuilder s = new StringBuilder("[" + x.alignment(tier, other, true) + " " + x.alignment(tier, other, false));
        int spans = x.tier(tier, 3);
        for (int span = 0; span < spans; span++) {
            s.append(' ').append(x.aligned(tier, other, span));
        }
        return s.append("; ").append(matches(x, search(x, tier + "=*," + other + "=*"))).append("]").toString();
    }

    /** All answers about the spans, but not about the changes that can be undone. */
    private static String answers(Counted x) {
        StringBuilder s = new StringBuilder();
        for (int what = 0; what < 5; what++) {
            s.append(x.book(what)).append(' ');
        }
        int tiers = x.book(0);
        for (int tier = 0; tier < tiers; tier++) {
            s.append(ofTier(x, tier));
        }
        for (int tier = 1; tier < tiers; tier++) {
            s.append(ofTiers(x, 0, tier)).append(ofTiers(x, tier, 0));
        }
        return s.append(x.isConsistent()).toString();
    }

    private static void alike(String what, Counted x, Counted due) {
        same(what, answers(x), answers(due));
    }

    private static void testSpansGone() {
        place = "Removes a span";
        Counted removed = told(FIRST, LAST);
        removed.removeSpan(0, 2);
        removed.select(0);
        removed.removeSpan(0, 2);
        removed.select(1);
        alike("behind a removal", removed, told(FIRST));
        Counted all = told(LAST);
        for (int annotator = 0; annotator < 2; annotator++) {
            all.select(annotator);
            all.removeSpan(0, 0);
        }
        alike("behind the removal of all", all, told());
        place = "one span with the label of the former";
        Counted joined = told(new String[] {"0:500-510=a;0:510-600=b;1:500-510=a;1:510-600=b",
            "0:510-580=a;0:580-620=b;1:520-580=a;1:580-600=b"});
        for (int annotator = 1; annotator >= 0; annotator--) {
            joined.select(annotator);
            joined.join(0, 0);
            joined.join(1, 0);
        }
        joined.select(1);
        alike("behind joins", joined, told(LAST));
        place = "all of them or none";
        Counted refused = told(FIRST);
        fails("a text with an item that is refused", REFUSED, () -> read(refused, LAST[1] + ";0:619-621=c"));
        alike("behind a refused text", refused, told(FIRST));
    }

    private static void testUndone() {
        place = "Undoes the last change that can be undone";
        Counted undone = told(FIRST, LAST);
        undone.undo();
        undone.select(0);
        undone.removeSpan(0, 2);
        undone.select(1);
        alike("behind an undone text", undone, told(FIRST));
        Counted tier = told(FIRST);
        tier.addTier(WORDS, 1, 0);
        read(tier, "2:5-12=w;2:20-30=v;0:500-600=w");
        tier.undo();
        tier.undo();
        alike("behind an undone tier", tier, told(FIRST));
    }

    /** A tier by the rule 1, with guests of the first two signs, is gone: these are free to go. */
    private static void isFree(String what, Counted x) {
        is("tiers behind " + what, x.book(0), 1);
        is("guests", x.span(0, 0, 4), 0);
        is("a move of a host", x.moveSpan(0, 0, 40, 50), 1);
        is("isConsistent", x.isConsistent() ? 1 : 0, 1);
        is("a split through a guest", x.split(0, 0, 22), 3);
        is("a removal", x.removeSpan(0, 0), 1);
    }

    private static void testGuests() {
        place = "those that depend on it";
        Counted x = with(signs(), "0:0-10=a;0:20-30=b");
        x.snapshot();
        x.addTier(WORDS, 1, 0);
        read(x, "1:0-10=w;1:20-25=v");
        x.restore();
        isFree("restore", x);
        x.clear();
        x.addTier(SIGNS, 0, 0);
        x.addTier(WORDS, 1, 0);
        read(x, "0:0-10=a;0:20-30=b;1:0-10=w;1:20-25=v");
        x.clear();
        x.addTier(SIGNS, 0, 0);
        read(x, "0:0-10=a;0:20-30=b");
        isFree("clear", x);
    }

    private static void testPartners() {
        place = "what the alignment of a tier with another one gives a span";
        for (int gone = 0; gone < 2; gone++) {
            Counted x = with(book(SIGNS, WORDS), "0:0-10=a;0:500-600=b;1:0-10=w;1:500-600=v");
            is("pairs", x.alignment(0, 1, true), 2);
            is("pairs back", x.alignment(1, 0, true), 2);
            x.removeSpan(gone, 1);
            for (int tier = 0; tier < 2; tier++) {
                is("pairs without one", x.alignment(tier, 1 - tier, true), 1);
                is("given to the first one", x.aligned(tier, 1 - tier, 0), 0);
            }
            is("given to the one that is left", x.aligned(1 - gone, gone, 1), -1);
        }
        Counted y = with(book(SIGNS, WORDS), "0:0-10=a;0:12-20=b;1:10-20=w");
        is("given to the nearer one", y.aligned(0, 1, 1), 0);
        y.removeSpan(0, 1);
        is("given to the one that is left", y.aligned(0, 1, 0), 0);
        is("its distance", y.alignment(0, 1, false), 20);
        Counted z = with(book(SIGNS, WORDS), "0:0-100=a;0:100-112=b;1:70-71=w;1:71-100=v");
        z.setSetting(0, 100);
        is("both distances", z.alignment(0, 1, false), 99 + 41);
        z.removeSpan(1, 1);
        is("given to the farther one", z.aligned(0, 1, 0), -1);
        is("given to the nearer one", z.aligned(0, 1, 1), 0);
        is("its distance", z.alignment(0, 1, false), 71);
        Counted u = with(book(SIGNS, WORDS), "0:0-10=a;0:500-510=b;0:600-610=c;1:0-10=w;1:600-610=v");
        is("pairs of three", u.alignment(0, 1, true), 2);
        u.removeSpan(0, 1);
        u.removeSpan(0, 1);
        is("pairs of one", u.alignment(0, 1, true), 1);
    }

    private static void testRestored() {
        place = "Restores all that from the snapshot";
        Counted restored = told(FIRST);
        restored.snapshot();
        read(restored, LAST[1]);
        restored.addTier(WORDS, 1, 0);
        read(restored, "2:5-12=w;2:20-30=v");
        restored.restore();
        alike("behind restore", restored, told(FIRST));
        place = "Makes everything as in a new object";
        Counted cleared = told(FIRST, LAST);
        cleared.clear();
        cleared.addTier(SIGNS, 0, 0);
        cleared.addTier(WORDS, 1, 0);
        cleared.select(1);
        alike("behind clear", cleared, told());
    }

    private static void testSixTiers() {
        place = "the spans of both annotators in all tiers";
        Counted x = book(new int[6]);
        for (int annotator = 0; annotator < 2; annotator++) {
            x.select(annotator);
            for (int tier = 0; tier < 6; tier++) {
                add(x, tier, 300, 301, "a");
                is("spans", x.book(4), 6 * annotator + tier + 1);
            }
        }
        place = "Returns a span of a match of the latest pattern";
        is("far from the frame 0", search(x, "5=a"), 1);
        is("its match", x.match(0, 0), 0);
    }

    public static void main(String[] args) {
        testSpansGone();
        testUndone();
        testRestored();
        testGuests();
        testPartners();
        testSixTiers();
        end();
    }
}
