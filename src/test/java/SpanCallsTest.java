import java.io.IOException;

/** Each sentence of the promises 1 to 18, with calls that find it broken. */
public final class SpanCallsTest extends Sentences {
    private static final String NO_TIER_OR_SPAN = "Throws `IndexOutOfBoundsException` if there is no such tier or span";
    private static final String NO_TIER = "Throws `IndexOutOfBoundsException` if there is no such tier";
    private static final String BAD_WHAT = "Throws `IllegalArgumentException` if what is out of range";
    private static final String NO_LABEL =
        "Throws `IllegalArgumentException` if the text is not a label for the tier; the error position is then kept";
    private static final String IF_REFUSED = "Throws `UnsupportedOperationException` if it is refused";

    private interface SpanCall {
        double go(int tier, int span);
    }

    /** Two tiers, the first one with one span and the second one with two: so a span 1 is there, but not in the first. */
    private static Counted oneAndTwo() {
        return with(book(SIGNS, SIGNS), "0:10-20=a;1:10-20=b;1:30-40=c");
    }

    private static void failsWithout(String what, Counted x, SpanCall call) {
        failsOutside(what + " of the tier", INDEX, 2, n -> call.go(n, 0));
        failsOutside(what + " of the span of the tier 1,", INDEX, 2, n -> call.go(1, n));
        fails(what + " of a span that only the other tier has", INDEX, () -> call.go(0, 1));
        same("spans", row(x, 0) + "," + row(x, 1), "10-20=a,10-20=b 30-40=c");
        is("changes", x.book(6), 3);
    }

    private static void testNew() {
        section("Promise 1");
        says("Creates a lesson book without tiers");
        Counted used = with(signs(), "0:0-1=a");
        used.select(1);
        search(used, "0=*");
        fails("a refused text", REFUSED, () -> read(used, "0:0-0=a"));
        fails("a malformed text", ARGUMENT, () -> read(used, "0"));
        used.snapshot();
        put(used, "abc");
        Counted x = new Counted();
        int[] due = {0, 0, 50, 20, 0, 0, 0, 0};
        for (int what = 0; what < due.length; what++) {
            is("book(" + what + ")", x.book(what), due[what]);
        }
        fails("tier 0", INDEX, () -> x.tier(0, 0));
        fails("undo", STATE, x::undo);
        fails("restore", STATE, x::restore);
        fails("match", STATE, () -> x.match(0, 0));
        fails("errorPosition", NONE, x::errorPosition);
        fails("refusedItem", NONE, x::refusedItem);
        fails("refusal", NONE, () -> x.refusal(true));
        fails("number of the refusal", NONE, () -> x.refusal(false));
        is("isConsistent", x.isConsistent() ? 1 : 0, 1);
        is("the other book is another one", used.book(4), 1);
    }

    private static void testClear() {
        section("Promise 2");
        says("Makes everything as in a new object");
        Counted x = with(ruled(1), "0:0-10=a;1:0-1=w");
        x.setSetting(0, 7);
        x.setSetting(1, 8);
        x.select(1);
        read(x, "0:0-10=b");
        x.clear();
        same("all", told(x), told(new Counted()));
        fails("undo", STATE, x::undo);
        is("a tier anew", x.addTier(HOLDS, 0, 0), 0);
        same("without a span of the old ones", told(x), told(book(HOLDS)));
        x.select(1);
        same("for the other annotator, too", row(x, 0), "");
        says("except the input buffer, the error position, the refusal, the refused item and the snapshot");
        Counted y = with(signs(), "0:0-10=a;0:20-30=b");
        y.snapshot();
        fails("a refused text", REFUSED, () -> read(y, "0:40-50=c;0:29-31=d"));
        fails("a malformed text", ARGUMENT, () -> read(y, "0:x"));
        put(y, "xyz");
        y.clear();
        is("buffer", y.book(5), 3);
        is("error position", y.errorPosition(), 2);
        is("reason", y.refusal(true), 2);
        is("number", y.refusal(false), 1);
        is("refused item", y.refusedItem(), 1);
        is("restore", y.restore(), 1);
        same("the snapshot", row(y, 0), "0-10=a 20-30=b");
        is("the buffer can be used", y.rename(0, 0), 1);
        same("its label", row(y, 0), "0-10=xyz 20-30=b");
        says("there is no pattern then");
        Counted z = with(signs(), "0:0-10=a");
        search(z, "0=*,0=*");
        z.clear();
        is("parts", z.book(7), 0);
        fails("match", STATE, () -> z.match(0, 0));
        says("Returns the number of tiers that there were");
        for (int tiers = 0; tiers <= 6; tiers++) {
            Counted w = book(new int[tiers]);
            is("tiers", w.clear(), tiers);
            is("tiers then", w.clear(), 0);
        }
    }

    private static void testAddTier() {
        section("Promise 3");
        says("Adds a tier without spans");
        Counted x = with(signs(), "0:0-10=a");
        x.select(1);
        read(x, "0:5-6=b");
        for (int i = 0; i < 4; i++) {
            x.undo();
        }
        x.addTier(WORDS, 0, 0);
        is("behind undone ones", x.book(4), 0);
        x.select(1);
        same("for the other annotator, too", row(x, 0), "");
        says("which does not matter for the rule 0");
        for (int parent : outside(0)) {
            Counted y = new Counted();
            is("with the parent " + parent, y.addTier(SIGNS, 0, parent), 0);
            is("parent", y.tier(0, 2), -1);
        }
        Counted z = book(SIGNS, SIGNS);
        z.addTier(SIGNS, 0, 1);
        is("no child", z.tier(1, 6), 0);
        says("Returns the number of the tier");
        is("the fourth one", z.addTier(SIGNS, 3, 2), 3);
        says("Throws `IllegalArgumentException` if the kind or the rule is out of range");
        Counted u = signs();
        failsOutside("kind", ARGUMENT, 4, n -> u.addTier(n, 0, 0));
        failsOutside("rule", ARGUMENT, 4, n -> u.addTier(0, n, 0));
        says("Throws `IndexOutOfBoundsException` if the rule is not 0 and there is no such tier as the parent");
        for (int rule = 1; rule < 4; rule++) {
            int r = rule;
            failsOutside("rule " + rule + ", parent", INDEX, 1, n -> u.addTier(0, r, n));
            fails("rule " + rule + " of the first tier", INDEX, () -> new Counted().addTier(0, r, 0));
        }
        same("all", told(u), told(signs()));
        says("Throws `IllegalStateException` if there are 6 tiers");
        Counted five = book(new int[5]);
        is("the sixth one", five.addTier(WORDS, 1, 4), 5);
        leaves(five, "a seventh one", STATE, () -> five.addTier(WORDS, 0, 0));
        leaves(five, "a seventh one with a parent", STATE, () -> five.addTier(WORDS, 3, 5));
        five.undo();
        is("a sixth one again", five.addTier(WORDS, 1, 4), 5);
    }

    private static void testSelect() {
        section("Promise 4");
        says("Makes an annotator the present one");
        Counted x = new Counted();
        x.select(1);
        is("1", x.book(1), 1);
        x.select(0);
        is("0", x.book(1), 0);
        says("Returns the former one");
        is("0", x.select(0), 0);
        is("still 0", x.select(1), 0);
        is("1", x.select(1), 1);
        is("still 1", x.select(0), 1);
        says("Throws `IllegalArgumentException` if there is no such annotator");
        failsOutside("annotator", ARGUMENT, 2, x::select);
        is("present", x.book(1), 0);
        is("changes", x.book(6), 6);
    }

    private static void testSetSetting() {
        section("Promise 5");
        says("0 for the window, 1 for the gap");
        Counted x = new Counted();
        x.setSetting(0, 7);
        is("window", x.book(2), 7);
        is("gap", x.book(3), 20);
        x.setSetting(1, 8);
        is("window still", x.book(2), 7);
        is("gap now", x.book(3), 8);
        says("the value, 0 to 200");
        for (int what = 0; what < 2; what++) {
            x.setSetting(what, 0);
            is("lowest", x.book(2 + what), 0);
            x.setSetting(what, 200);
            is("highest", x.book(2 + what), 200);
        }
        says("Returns the previous value");
        Counted y = new Counted();
        is("window", y.setSetting(0, 0), 50);
        is("gap", y.setSetting(1, 200), 20);
        is("window again", y.setSetting(0, 9), 0);
        is("gap again", y.setSetting(1, 200), 200);
        says("Throws `IndexOutOfBoundsException` if there is no such setting");
        failsOutside("setting", INDEX, 2, n -> y.setSetting(n, 5));
        says("Throws `IllegalArgumentException` if the value is out of range");
        for (int what = 0; what < 2; what++) {
            int w = what;
            for (int value : new int[] {-1, 201, 202, 1000, Integer.MAX_VALUE, Integer.MIN_VALUE}) {
                fails("value " + value, ARGUMENT, () -> y.setSetting(w, value));
            }
        }
        is("window", y.book(2), 9);
        is("gap", y.book(3), 200);
        is("changes", y.book(6), 4);
    }

    private static void asks(Counted x, int tier, int... due) {
        for (int what = 0; what < due.length; what++) {
            is("tier(" + tier + ", " + what + ")", x.tier(tier, what), due[what]);
        }
    }

    private static void testTier() {
        section("Promise 6");
        says("Returns a number of a tier");
        is("the spans of each", book(SIGNS, WORDS).tier(1, 3), 0);
        says("0 for its kind, 1 for its rule, 2 for its parent, -1 without one, 3 for its spans, 4 for the frames of these");
        Counted x = signs();
        for (int tier = 1; tier < 6; tier++) {
            x.addTier(tier % 4, tier % 4, tier == 5 ? 3 : 0);
        }
        asks(x, 0, 0, 0, -1, 0, 0, 0, 0b1110, 0);
        asks(x, 1, 1, 1, 0, 0, 0, 0, 0, 0);
        asks(x, 2, 2, 2, 0, 0, 0, 0, 0, 0);
        asks(x, 3, 3, 3, 0, 0, 0, 0, 0b100000, 0);
        asks(x, 4, 0, 0, -1, 0, 0, 0, 0, 0);
        asks(x, 5, 1, 1, 3, 0, 0, 0, 0, 0);
        Counted one = with(signs(), "0:999-1000=a");
        asks(one, 0, 0, 0, -1, 1, 1);
        Counted all = with(signs(), "0:0-999=a;0:999-1000=a");
        asks(all, 0, 0, 0, -1, 2, 1000);
        says("5 for the spans of the other annotator");
        Counted both = both("0:0-1=a;0:1-2=a;0:2-3=a", "0:0-9=b");
        is("for 1", both.tier(0, 5), 3);
        both.select(0);
        is("for 0", both.tier(0, 5), 1);
        says("6 for the tiers whose parent it is, as a bit mask");
        Counted five = signs();
        for (int rule : new int[] {1, 2, 3, 1, 2}) {
            five.addTier(SIGNS, rule, 0);
        }
        is("five", five.tier(0, 6), 0b111110);
        is("none", five.tier(5, 6), 0);
        Counted row = signs();
        row.addTier(SIGNS, 1, 0);
        row.addTier(SIGNS, 1, 1);
        is("but not theirs", row.tier(0, 6), 0b10);
        says("7 for the different labels of its spans");
        is("none", signs().tier(0, 7), 0);
        is("30 the same", full().tier(0, 7), 1);
        Counted different = signs();
        for (int i = 0; i < 30; i++) {
            add(different, 0, i, i + 1, i < 26 ? "" + (char) ('a' + i) : "a" + (char) ('a' + i - 26));
        }
        is("30 others", different.tier(0, 7), 30);
        rename(different, 0, 29, "a");
        is("the first one and the last one the same", different.tier(0, 7), 29);
        says(NO_TIER);
        failsOutside("tier", INDEX, 6, n -> x.tier(n, 0));
        fails("without any", INDEX, () -> new Counted().tier(0, 0));
        says(BAD_WHAT);
        failsOutside("what", ARGUMENT, 8, n -> x.tier(0, n));
    }

    private static void testBook() {
        section("Promise 7");
        says("Returns a number of the lesson book");
        Counted x = with(book(SIGNS, WORDS), "0:0-1=a;1:0-1=a;1:1-2=a");
        x.select(1);
        read(x, "0:0-1=a;1:0-1=a");
        x.setSetting(0, 1);
        x.setSetting(1, 2);
        search(x, "0=*,1=*&1=a");
        put(x, "abcde");
        int[] due = {2, 1, 1, 2, 5, 5, 7, 3};
        for (int what = 0; what < due.length; what++) {
            is("book(" + what + ")", x.book(what), due[what]);
        }
        says("4 for the spans of both annotators in all tiers");
        is("whoever is present", x.book(4), 5);
        x.select(0);
        is("the other one", x.book(4), 5);
        x.undo();
        says("5 for the characters in the buffer");
        is("none", new Counted().book(5), 0);
        is("all", put(new Counted(), "~".repeat(100)).book(5), 100);
        says("6 for the changes that can be undone");
        Counted y = new Counted();
        for (int i = 1; i < 12; i++) {
            y.select(0);
            is("changes", y.book(6), Math.min(i, 8));
        }
        says("7 for the parts of the latest pattern, 0 without one");
        is("without one", signs().book(7), 0);
        Counted z = book(SIGNS, WORDS);
        String pattern = "0=*";
        for (int parts = 1; parts <= 4; parts++) {
            search(z, pattern);
            is("parts", z.book(7), parts);
            pattern += "&1=*";
        }
        says(BAD_WHAT);
        failsOutside("what", ARGUMENT, 8, x::book);
    }

    private static void testAppend() {
        section("Promise 8");
        says("Appends up to four characters to the input buffer");
        Counted x = signs();
        is("none", x.append(0), 0);
        is("one", x.append('a'), 1);
        is("two", x.append('b' << 24 | 'c'), 3);
        is("three", x.append('d' << 16 | 'e' << 8 | 'f'), 6);
        x.addSpan(0, 0, 1);
        is("four", x.append('g' << 24 | 'h' << 16 | 'i' << 8 | 'j'), 4);
        x.addSpan(0, 1, 2);
        same("them", row(x, 0), "0-1=abcdef 1-2=ghij");
        says("the bytes of an int from the most significant one to the least significant one, where bytes that are 0 are skipped");
        for (int mask = 1; mask < 16; mask++) {
            Counted y = signs();
            StringBuilder due = new StringBuilder();
            int packed = 0;
            for (int i = 0; i < 4; i++) {
                boolean isIn = (mask >> i & 1) == 1;
                packed |= isIn ? 'a' + i << 24 - 8 * i : 0;
                due.append(isIn ? "" + (char) ('a' + i) : "");
            }
            is("characters", y.append(packed), due.length());
            y.addSpan(0, 0, 1);
            same("label", row(y, 0), "0-1=" + due);
        }
        says("Returns the number of characters in the buffer");
        for (int i = 1; i <= 25; i++) {
            is("characters", x.append(' ' << 24 | '~' << 16 | ' ' << 8 | '~'), 4 * i);
        }
        is("none more", x.append(0), 100);
        testAppendTooMuch();
    }

    private static void testAppendTooMuch() {
        says("Throws `IllegalArgumentException` if a byte that is not 0 is not from 32 to 126");
        for (int code : new int[] {1, 31, 127, 128, 159, 160, 255}) {
            for (int shift = 0; shift < 32; shift += 8) {
                Counted x = put(signs(), "ab");
                int packed = 'c' * 0x01010101 & ~(255 << shift) | code << shift;
                leaves(x, "the code " + code, ARGUMENT, () -> x.append(packed));
                x.addSpan(0, 0, 1);
                same("nothing of it", row(x, 0), "0-1=ab");
            }
        }
        says("Throws `IllegalStateException` if there would be more than 100 characters");
        for (int there = 96; there <= 100; there++) {
            for (int more = 0; more <= 4; more++) {
                Counted x = put(signs(), "a".repeat(there));
                int packed = more == 0 ? 0 : packed("bcde".substring(4 - more), 0);
                if (there + more <= 100) {
                    is(more + " more than " + there, x.append(packed), there + more);
                } else {
                    leaves(x, more + " more than " + there, STATE, () -> x.append(packed));
                    is("characters", x.book(5), there);
                }
            }
        }
    }

    private static void testAddSpan() {
        section("Promise 9");
        says("Adds a span whose label is the text in the input buffer");
        Counted x = signs();
        put(x, "abcd");
        put(x, "efgh");
        is("added", x.addSpan(0, 10, 20), 0);
        same("span", row(x, 0), "10-20=abcdefgh");
        says("The buffer is empty afterwards, except if there is no such tier");
        is("behind a success", x.book(5), 0);
        fails("no label", ARGUMENT, () -> add(x, 0, 20, 30, "a?"));
        is("behind no label", x.book(5), 0);
        fails("in the way", REFUSED, () -> add(x, 0, 19, 30, "a"));
        is("behind a refusal", x.book(5), 0);
        fails("no tier", INDEX, () -> add(x, 1, 20, 30, "ab"));
        is("without a tier", x.book(5), 2);
        x.addSpan(0, 20, 30);
        same("and as it was", row(x, 0), "10-20=abcdefgh 20-30=ab");
        says("Returns the number of the span");
        is("in front", add(x, 0, 9, 10, "c"), 0);
        is("between", add(x, 0, 30, 31, "d"), 3);
        is("behind", add(x, 0, 999, 1000, "e"), 4);
        says(NO_TIER);
        Counted y = put(signs(), "a");
        failsOutside("tier", INDEX, 1, n -> y.addSpan(n, 0, 1));
        same("spans", row(y, 0), "");
        says(NO_LABEL);
        Counted z = book(SIGNS, HOLDS, MOUTHINGS, WORDS);
        String[] texts = {"abc1", "b2", "3c", "word "};
        int[] positions = {3, 1, 1, 4};
        for (int tier = 0; tier < 4; tier++) {
            int t = tier;
            malformed(z, "text " + texts[tier], positions[tier], () -> add(z, t, 0, 1, texts[t]));
        }
        says(IF_REFUSED);
        Counted u = with(ruled(1), "0:10-20=a;1:10-11=b");
        refuses(u, "no frames", 1, 0, () -> add(u, 0, 30, 30, "a"));
        refuses(u, "in the way", 2, 0, () -> add(u, 0, 19, 30, "a"));
        refuses(u, "no host", 3, 0, () -> add(u, 1, 19, 21, "a"));
        Counted v = full();
        refuses(v, "a 31st", 5, 0, () -> add(v, 0, 500, 501, "a"));
    }

    private static void testRemoveSpan() {
        section("Promise 10");
        says("Removes a span");
        Counted x = with(signs(), "0:0-10=a;0:10-20=b;0:20-30=c");
        is("the middle one", x.removeSpan(0, 1), 1);
        same("the others", row(x, 0), "0-10=a 20-30=c");
        is("the last one", x.removeSpan(0, 1), 1);
        is("the only one", x.removeSpan(0, 0), 1);
        same("none", row(x, 0), "");
        says("and all spans of the tiers that depend on it, which would have no host then, with those that depend on these, and so on");
        Counted y = chain();
        is("all six", y.removeSpan(0, 0), 6);
        for (int tier = 0; tier < 6; tier++) {
            same("tier " + tier, row(y, tier), tier == 0 ? "50-90=b" : tier == 1 ? "50-90=w" : "");
        }
        Counted z = chain();
        is("from the third one on", z.removeSpan(2, 0), 4);
        same("those above", row(z, 0) + "," + row(z, 1), "0-40=a 50-90=b,0-40=w 50-90=w");
        Counted u = ruled(1);
        u.addTier(WORDS, 0, 0);
        read(u, "0:0-10=a;1:0-10=w;2:0-10=v");
        u.select(1);
        read(u, "0:0-10=a;1:0-10=w");
        is("of the present annotator", u.removeSpan(0, 0), 2);
        same("not the tier without a rule", row(u, 0) + "," + row(u, 1), ",");
        u.select(0);
        same("nor the other annotator's", row(u, 0) + "," + row(u, 1) + "," + row(u, 2), "0-10=a,0-10=w,0-10=v");
        says("Returns the number of spans that are removed");
        Counted v = ruled(1);
        read(v, "0:0-100=a");
        fill(v, 1, 3, "w");
        is("one with 30", v.removeSpan(0, 0), 31);
        is("none left", v.book(4), 0);
        v.undo();
        is("all back", v.book(4), 31);
        says(NO_TIER_OR_SPAN);
        Counted w = oneAndTwo();
        failsWithout("removeSpan", w, w::removeSpan);
    }

    /** Six tiers in a row by all three rules, with a span each that depends on the one before it. */
    private static Counted chain() {
        Counted x = signs();
        int[] rules = {2, 1, 3, 1, 2};
        for (int tier = 1; tier < 6; tier++) {
            x.addTier(WORDS, rules[tier - 1], tier - 1);
        }
        return with(x, "0:0-40=a;0:50-90=b;1:0-40=w;1:50-90=w;2:10-20=w;3:10-90=w", "4:60-70=w;5:60-70=w");
    }

    private static void testMoveSpan() {
        section("Promise 11");
        says("Gives a span other frames");
        Counted x = with(signs(), "0:10-20=ab;0:30-40=c;0:50-60=d");
        x.moveSpan(0, 0, 15, 25);
        same("its label stays", row(x, 0), "15-25=ab 30-40=c 50-60=d");
        says("Returns the number that the span has then");
        is("behind the next one", x.moveSpan(0, 0, 41, 42), 1);
        same("spans", row(x, 0), "30-40=c 41-42=ab 50-60=d");
        is("to the end", x.moveSpan(0, 1, 999, 1000), 2);
        is("to the front", x.moveSpan(0, 2, 0, 30), 0);
        is("where it is", x.moveSpan(0, 0, 0, 30), 0);
        same("spans", row(x, 0), "0-30=ab 30-40=c 50-60=d");
        is("the middle one stays", x.moveSpan(0, 1, 30, 50), 1);
        says(NO_TIER_OR_SPAN);
        Counted y = oneAndTwo();
        failsWithout("moveSpan", y, (tier, span) -> y.moveSpan(tier, span, 50, 60));
        says(IF_REFUSED);
        Counted z = nested();
        refuses(z, "no frames", 1, 0, () -> z.moveSpan(0, 0, 20, 20));
        refuses(z, "in the way", 2, 1, () -> z.moveSpan(0, 0, 39, 41));
        refuses(z, "no host", 3, 0, () -> z.moveSpan(2, 0, 20, 30));
        refuses(z, "a guest", 4, 1, () -> z.moveSpan(0, 0, 11, 20));
        is("the 30th of 30", full().moveSpan(0, 29, 87, 1000), 29);
    }

    private static void testRename() {
        section("Promise 12");
        says("Gives a span the label that is the text in the input buffer");
        Counted x = with(signs(), "0:0-10=a;0:10-20=b");
        put(x, "ab");
        put(x, "cdefgh");
        x.rename(0, 1);
        same("spans", row(x, 0), "0-10=a 10-20=abcdefgh");
        rename(x, 0, 1, "z");
        same("a shorter one", row(x, 0), "0-10=a 10-20=z");
        says("The buffer is empty afterwards, except if there is no such tier or span");
        is("behind a success", x.book(5), 0);
        fails("no label", ARGUMENT, () -> rename(x, 0, 0, "A"));
        is("behind no label", x.book(5), 0);
        fails("no tier", INDEX, () -> rename(x, 1, 0, "xy"));
        is("without a tier", x.book(5), 2);
        fails("no span", INDEX, () -> x.rename(0, 2));
        is("without a span", x.book(5), 2);
        says("Returns 1 if the label is another one than before, otherwise 0");
        is("another one", x.rename(0, 0), 1);
        is("the same", rename(x, 0, 0, "xy"), 0);
        is("a shorter one", rename(x, 0, 0, "x"), 1);
        is("a longer one", rename(x, 0, 0, "xx"), 1);
        Counted digits = with(book(MOUTHINGS), "0:0-1=0");
        is("the same digit", rename(digits, 0, 0, "0"), 0);
        is("another digit", rename(digits, 0, 0, "9"), 1);
        says(NO_TIER_OR_SPAN);
        Counted y = put(oneAndTwo(), "a");
        failsWithout("rename", y, y::rename);
        says(NO_LABEL);
        Counted z = with(book(SIGNS, HOLDS, MOUTHINGS, WORDS), "0:0-1=a;1:0-1=l;2:0-1=1;3:0-1=w");
        String[] texts = {"", "a", "l", "abcdefghi"};
        int[] positions = {0, 0, 0, 8};
        for (int tier = 0; tier < 4; tier++) {
            int t = tier;
            malformed(z, "text '" + texts[tier] + "'", positions[tier], () -> rename(z, t, 0, texts[t]));
        }
    }

    private static void testSplit() {
        section("Promise 13");
        says("Splits a span into two with its label, of which the second one begins at a frame");
        Counted x = with(signs(), "0:0-10=ab;0:10-20=cd;0:30-40=ef");
        x.split(0, 1, 13);
        same("spans", row(x, 0), "0-10=ab 10-13=cd 13-20=cd 30-40=ef");
        says("1 if the frame is not greater than the first frame and less than the end");
        for (int at : new int[] {10, 9, 13, 14, 0, -1, 1000, Integer.MIN_VALUE, Integer.MAX_VALUE}) {
            fails("at " + at, REFUSED, () -> x.split(0, 1, at));
            is("reason", x.refusal(true), 1);
            is("number", x.refusal(false), 0);
        }
        is("just behind the first frame", x.split(0, 1, 11), 5);
        is("just before the end", x.split(0, 2, 12), 6);
        same("spans", row(x, 0), "0-10=ab 10-11=cd 11-12=cd 12-13=cd 13-20=cd 30-40=ef");
        refuses(x, "a single frame", 1, 0, () -> x.split(0, 1, 11));
        says("3 if one of both would have no host");
        Counted y = with(ruled(2), "0:10-20=a;1:10-20=w");
        refuses(y, "rule 2", 3, 0, () -> y.split(1, 0, 15));
        Counted z = with(ruled(3), "0:10-20=a;0:20-30=b;1:10-40=w");
        refuses(z, "rule 3", 3, 0, () -> z.split(1, 0, 15));
        is("with the next host", z.split(1, 0, 20), 2);
        is("rule 1", with(ruled(1), "0:10-20=a;1:10-20=w").split(1, 0, 11), 2);
        says("4, and 5");
        Counted u = with(ruled(1), "0:10-20=a;1:14-16=w");
        refuses(u, "through a guest", 4, 1, () -> u.split(0, 0, 15));
        is("beside it", u.split(0, 0, 14), 2);
        Counted v = with(signs(), "0:900-910=z");
        for (int i = 0; i < 28; i++) {
            add(v, 0, i, i + 1, "a");
        }
        is("29 become 30", v.split(0, 28, 905), 30);
        refuses(v, "30", 5, 0, () -> v.split(0, 28, 902));
        says("Returns the number of spans of the tier then");
        Counted w = with(book(SIGNS, SIGNS), "0:0-10=a;1:0-10=b;1:10-20=c");
        is("of this tier", w.split(1, 1, 15), 3);
        is("of the other tier", w.split(0, 0, 5), 2);
        says(NO_TIER_OR_SPAN);
        Counted n = oneAndTwo();
        failsWithout("split", n, (tier, span) -> n.split(tier, span, 15));
        says(IF_REFUSED);
        refuses(u, "behind the end", 1, 0, () -> u.split(0, 0, 14));
    }

    private static void testJoin() {
        section("Promise 14");
        says("the frames from the first frame of the former to the end of the latter become one span with the label of the former");
        Counted x = with(signs(), "0:0-10=ab;0:10-20=cd;0:25-30=ef;0:999-1000=gh");
        x.join(0, 1);
        same("over a pause", row(x, 0), "0-10=ab 10-30=cd 999-1000=gh");
        x.join(0, 0);
        same("touching ones", row(x, 0), "0-30=ab 999-1000=gh");
        is("frames", x.tier(0, 4), 31);
        x.join(0, 0);
        same("all", row(x, 0), "0-1000=ab");
        says("1 if there is no next one, 3, and 4");
        refuses(x, "the only one", 1, 0, () -> x.join(0, 0));
        Counted y = with(ruled(1), "0:0-10=a;0:10-20=b;1:0-5=w;1:15-20=v");
        refuses(y, "the last one", 1, 0, () -> y.join(0, 1));
        refuses(y, "no host for both", 3, 0, () -> y.join(1, 0));
        Counted z = with(ruled(3), "0:0-10=a;0:10-20=b;1:0-5=w;1:10-20=v");
        refuses(z, "a guest of the latter", 4, 1, () -> z.join(0, 0));
        is("a guest by the rule 3 needs no end", z.join(1, 0), 1);
        is("then its host can be joined", z.join(0, 0), 1);
        says("Returns the number of spans of the tier then");
        is("30 become 29", full().join(0, 0), 29);
        is("the last two", full().join(0, 28), 29);
        says(NO_TIER_OR_SPAN);
        Counted n = oneAndTwo();
        failsWithout("join", n, n::join);
        says(IF_REFUSED);
        Counted f = full();
        refuses(f, "the 30th", 1, 0, () -> f.join(0, 29));
    }

    private static void testSpan() {
        section("Promise 15");
        says("Returns a number of a span");
        is("the end of the second one", with(signs(), "0:0-1=a;0:1-9=b").span(0, 1, 1), 9);
        says("0 for its first frame, 1 for its end, 2 for the length of its label, 3 for its host, -1 without one");
        Counted x = nested();
        x.addTier(WORDS, 2, 0);
        x.addTier(MOUTHINGS, 3, 0);
        x.addTier(HOLDS, 0, 0);
        read(x, "3:10-20=abcdefgh;3:50-60=xy;4:50-1000=7;5:0-1=r");
        int[][] due = {{0, 0, 10, 20, 1, -1, 2}, {0, 1, 30, 40, 1, -1, 1}, {0, 2, 50, 60, 1, -1, 2}, {1, 0, 10, 20, 1, 0, 1},
            {1, 1, 30, 40, 1, 1, 0}, {2, 0, 10, 20, 1, 0, 0}, {3, 0, 10, 20, 8, 0, 0}, {3, 1, 50, 60, 2, 2, 0},
            {4, 0, 50, 1000, 1, 2, 0}, {5, 0, 0, 1, 1, -1, 0}};
        for (int[] d : due) {
            for (int what = 0; what < 5; what++) {
                is("span(" + d[0] + ", " + d[1] + ", " + what + ")", x.span(d[0], d[1], what), d[what + 2]);
            }
        }
        says("4 for the spans that have it as their host, in all tiers");
        Counted y = ruled(1);
        y.addTier(WORDS, 1, 0);
        read(y, "0:0-100=a;2:0-1=v");
        fill(y, 1, 3, "w");
        is("30 of one tier and one of another one", y.span(0, 0, 4), 31);
        y.select(1);
        read(y, "0:0-100=a");
        is("not the other annotator's", y.span(0, 0, 4), 0);
        says(NO_TIER_OR_SPAN);
        Counted z = oneAndTwo();
        failsWithout("span", z, (tier, span) -> z.span(tier, span, 0));
        says(BAD_WHAT);
        failsOutside("what", ARGUMENT, 5, n -> z.span(0, 0, n));
    }

    private static void testLetter() {
        section("Promise 16");
        says("Returns a character of the label of a span");
        Counted x = with(book(SIGNS, HOLDS, MOUTHINGS), "0:0-1=abcdefgz;0:1-2=q;1:0-1=r;2:0-1=0");
        same("spans", row(x, 0) + "," + row(x, 1) + "," + row(x, 2), "0-1=abcdefgz 1-2=q,0-1=r,0-1=0");
        says("the index, from 0");
        is("first", x.letter(0, 0, 0), 'a');
        is("last of eight", x.letter(0, 0, 7), 'z');
        says(NO_TIER_OR_SPAN);
        Counted y = oneAndTwo();
        failsWithout("letter", y, (tier, span) -> y.letter(tier, span, 0));
        says("Throws `NoSuchElementException` if there is no such index");
        failsOutside("index of eight", NONE, 8, n -> x.letter(0, 0, n));
        failsOutside("index of one", NONE, 1, n -> x.letter(0, 1, n));
        rename(x, 0, 0, "abc");
        failsOutside("index of three that were eight", NONE, 3, n -> x.letter(0, 0, n));
    }

    private static void testSpanAt() {
        section("Promise 17");
        says("Returns the span with a frame");
        Counted x = with(signs(), "0:0-1=a;0:10-20=b;0:20-30=c;0:999-1000=d");
        int[][] due = {{0, 0}, {10, 1}, {19, 1}, {20, 2}, {29, 2}, {999, 3}};
        for (int[] d : due) {
            is("frame " + d[0], x.spanAt(0, d[0]), d[1]);
        }
        says("the frame, any int");
        for (int frame : new int[] {-1, 1000, 1001, Integer.MAX_VALUE, Integer.MIN_VALUE, Integer.MIN_VALUE + 1}) {
            is("frame " + frame, x.spanAt(0, frame), -1);
        }
        says("Returns the span, or -1 if there is none");
        for (int frame : new int[] {1, 9, 30, 998}) {
            is("frame " + frame, x.spanAt(0, frame), -1);
        }
        is("without spans", signs().spanAt(0, 0), -1);
        says(NO_TIER);
        failsOutside("tier", INDEX, 1, n -> x.spanAt(n, 0));
    }

    private static void testRefusal() {
        section("Promise 18");
        says("true for the reason, false for the number that is kept with it");
        Counted x = with(signs(), "0:0-10=a;0:10-20=b;0:30-40=c;0:50-60=d");
        fails("in the way", REFUSED, () -> add(x, 0, 55, 70, "e"));
        is("reason", x.refusal(true), 2);
        is("number", x.refusal(false), 3);
        says("Returns a part of the latest refusal");
        fails("a newer one", REFUSED, () -> x.moveSpan(0, 3, 5, 50));
        is("reason", x.refusal(true), 2);
        is("number", x.refusal(false), 0);
        fails("and a newer one", REFUSED, () -> x.join(0, 3));
        is("reason", x.refusal(true), 1);
        is("number", x.refusal(false), 0);
        x.join(0, 0);
        is("behind a success", x.refusal(true), 1);
        says("Throws `NoSuchElementException` if nothing was refused");
        Counted y = with(signs(), "0:0-10=a");
        fails("no span", INDEX, () -> y.split(0, 1, 5));
        fails("no label", ARGUMENT, () -> y.rename(0, 0));
        fails("malformed", ARGUMENT, y::read);
        leaves(y, "reason", NONE, () -> y.refusal(true));
        leaves(y, "number", NONE, () -> y.refusal(false));
        Counted z = with(book(SIGNS, WORDS, HOLDS), "0:0-10=a", "1:0-10=w", "2:0-10=l", "0:10-20=b;1:10-20=v");
        fails("reason behind texts that were taken", NONE, () -> z.refusal(true));
    }

    public static void main(String[] args) throws IOException {
        testNew();
        testClear();
        testAddTier();
        testSelect();
        testSetSetting();
        testTier();
        testBook();
        testAppend();
        testAddSpan();
        testRemoveSpan();
        testMoveSpan();
        testRename();
        testSplit();
        testJoin();
        testSpan();
        testLetter();
        testSpanAt();
        testRefusal();
        endQuotes();
    }
}
