/** Each promise by hand: ordinary inputs, the edges that the document names, and wrong inputs. */
public final class PromiseTest extends Checks {
    private static void testNew() {
        place = "promise 1";
        Counted x = new Counted();
        int[] due = {0, 0, 50, 20, 0, 0, 0, 0};
        for (int what = 0; what < due.length; what++) {
            is("book(" + what + ")", x.book(what), due[what]);
        }
        fails("undo of nothing", STATE, x::undo);
        fails("restore of nothing", STATE, x::restore);
        fails("errorPosition", NONE, x::errorPosition);
        fails("refusedItem", NONE, x::refusedItem);
        fails("refusal reason", NONE, () -> x.refusal(true));
        fails("refusal number", NONE, () -> x.refusal(false));
        fails("match", STATE, () -> x.match(0, 0));
        fails("tier 0", INDEX, () -> x.tier(0, 0));
        is("isConsistent", x.isConsistent() ? 1 : 0, 1);
    }

    private static void testClear() {
        place = "promise 2";
        Counted x = signs();
        x.addTier(HOLDS, 1, 0);
        x.select(1);
        x.setSetting(0, 7);
        x.setSetting(1, 8);
        add(x, 0, 0, 5, "a");
        fails("refused text", REFUSED, () -> read(x, "0:9-10=a;0:0-5=b"));
        fails("malformed text", ARGUMENT, () -> read(x, "0:x"));
        x.snapshot();
        search(x, "0=*");
        put(x, "abc");
        is("clear", x.clear(), 2);
        int[] due = {0, 0, 50, 20, 0, 3, 0, 0};
        for (int what = 0; what < due.length; what++) {
            is("book(" + what + ") behind it", x.book(what), due[what]);
        }
        fails("no pattern", STATE, () -> x.match(0, 0));
        fails("no undo", STATE, x::undo);
        is("error position stays", x.errorPosition(), 2);
        is("refused item stays", x.refusedItem(), 1);
        is("refusal stays", x.refusal(true), 2);
        is("clear of nothing", x.clear(), 0);
        is("a new tier", x.addTier(WORDS, 0, 0), 0);
        same("it has no spans of an old one", row(x, 0), "");
        is("nor of the other annotator", x.tier(0, 5), 0);
        is("the snapshot stays", x.restore(), 2);
        is("its annotator", x.book(1), 1);
        same("its spans", row(x, 0), "0-5=a");
    }

    private static void testAddTier() {
        place = "promise 3";
        Counted x = new Counted();
        fails("kind -1", ARGUMENT, () -> x.addTier(-1, 0, 0));
        fails("kind 4", ARGUMENT, () -> x.addTier(4, 0, 0));
        fails("rule -1", ARGUMENT, () -> x.addTier(0, -1, 0));
        fails("rule 4 ahead of the parent", ARGUMENT, () -> x.addTier(0, 4, 9));
        fails("itself as the parent", INDEX, () -> x.addTier(0, 1, 0));
        is("no change", x.book(6), 0);
        is("first", x.addTier(SIGNS, 0, Integer.MIN_VALUE), 0);
        fails("parent 1", INDEX, () -> x.addTier(0, 1, 1));
        fails("parent -1", INDEX, () -> x.addTier(0, 3, -1));
        is("second", x.addTier(HOLDS, 1, 0), 1);
        is("third", x.addTier(MOUTHINGS, 2, 1), 2);
        is("fourth", x.addTier(WORDS, 3, 0), 3);
        is("fifth", x.addTier(WORDS, 0, 77), 4);
        is("sixth", x.addTier(SIGNS, 0, 0), 5);
        fails("seventh", STATE, () -> x.addTier(0, 0, 0));
        fails("seventh of a wrong kind", ARGUMENT, () -> x.addTier(9, 0, 0));
        fails("seventh of a wrong parent", INDEX, () -> x.addTier(0, 1, 6));
        is("tiers", x.book(0), 6);
        is("changes", x.book(6), 6);
        Counted y = signs();
        add(y, 0, 0, 9, "a");
        y.undo();
        y.undo();
        y.addTier(SIGNS, 0, 0);
        same("a tier after an undo is without spans", row(y, 0), "");
    }

    private static void testSelect() {
        place = "promise 4";
        Counted x = signs();
        add(x, 0, 0, 5, "zero");
        fails("annotator -1", ARGUMENT, () -> x.select(-1));
        fails("annotator 2", ARGUMENT, () -> x.select(2));
        is("changes", x.book(6), 2);
        is("select 1", x.select(1), 0);
        is("present one", x.book(1), 1);
        same("own spans", row(x, 0), "");
        is("same frames for both", add(x, 0, 0, 5, "one"), 0);
        is("select 1 again", x.select(1), 1);
        is("is a change", x.book(6), 5);
        is("select 0", x.select(0), 1);
        same("spans of 0", row(x, 0), "0-5=zero");
        x.undo();
        is("undone", x.book(1), 1);
    }

    private static void testSetSetting() {
        place = "promise 5";
        Counted x = new Counted();
        fails("what -1", INDEX, () -> x.setSetting(-1, 0));
        fails("what 2 ahead of the value", INDEX, () -> x.setSetting(2, 999));
        fails("value -1", ARGUMENT, () -> x.setSetting(0, -1));
        fails("value 201", ARGUMENT, () -> x.setSetting(1, 201));
        is("window", x.setSetting(0, 200), 50);
        is("gap", x.setSetting(1, 0), 20);
        is("window again", x.setSetting(0, 0), 200);
        is("gap again", x.setSetting(1, 200), 0);
        is("same value", x.setSetting(1, 200), 200);
        is("book window", x.book(2), 0);
        is("book gap", x.book(3), 200);
        is("changes", x.book(6), 5);
        x.undo();
        x.undo();
        is("undone gap", x.book(3), 0);
    }

    private static void testTier() {
        place = "promise 6";
        Counted x = signs();
        x.addTier(HOLDS, 1, 0);
        x.addTier(MOUTHINGS, 3, 0);
        x.addTier(WORDS, 0, 1);
        x.addTier(WORDS, 2, 3);
        read(x, "0:0-10=a;0:10-30=b;0:40-41=a;1:2-3=l;3:5-7=a");
        x.select(1);
        read(x, "0:0-10=a;0:20-21=b");
        x.select(0);
        int[][] due = {
            {0, 0, -1, 3, 31, 2, 0b110, 2}, {1, 1, 0, 1, 1, 0, 0, 1}, {2, 3, 0, 0, 0, 0, 0, 0},
            {3, 0, -1, 1, 2, 0, 0b10000, 1}, {3, 2, 3, 0, 0, 0, 0, 0}
        };
        for (int tier = 0; tier < due.length; tier++) {
            for (int what = 0; what < 8; what++) {
                is("tier(" + tier + ", " + what + ")", x.tier(tier, what), due[tier][what]);
            }
        }
        x.select(1);
        is("spans of 1", x.tier(0, 3), 2);
        is("spans of the other", x.tier(0, 5), 3);
        fails("tier -1", INDEX, () -> x.tier(-1, 0));
        fails("tier 5 ahead of what", INDEX, () -> x.tier(5, 9));
        fails("what -1", ARGUMENT, () -> x.tier(0, -1));
        fails("what 8", ARGUMENT, () -> x.tier(0, 8));
    }

    private static void testBook() {
        place = "promise 7";
        Counted x = signs();
        x.addTier(WORDS, 0, 0);
        add(x, 0, 0, 1, "a");
        x.select(1);
        add(x, 1, 0, 1, "a");
        add(x, 1, 1, 2, "a");
        search(x, "0=*,1=a&1=*");
        put(x, "xy");
        int[] due = {2, 1, 50, 20, 3, 2, 6, 3};
        for (int what = 0; what < due.length; what++) {
            is("book(" + what + ")", x.book(what), due[what]);
        }
        fails("what -1", ARGUMENT, () -> x.book(-1));
        fails("what 8", ARGUMENT, () -> x.book(8));
        x.setSetting(0, 1);
        x.setSetting(1, 2);
        x.select(0);
        is("at most 8 changes", x.book(6), 8);
        is("window", x.book(2), 1);
        is("gap", x.book(3), 2);
    }

    private static void testAppend() {
        place = "promise 8";
        Counted x = signs();
        is("nothing", x.append(0), 0);
        is("one below", x.append('a'), 1);
        is("one on top", x.append('b' << 24), 2);
        is("two around zeros", x.append('c' << 24 | 'd'), 4);
        is("the edges 32 and 126", x.append(32 << 16 | 126 << 8), 6);
        fails("31", ARGUMENT, () -> x.append(31));
        fails("127", ARGUMENT, () -> x.append(127 << 8));
        fails("128 on top", ARGUMENT, () -> x.append(128 << 24));
        fails("255s", ARGUMENT, () -> x.append(-1));
        fails("1 behind good ones", ARGUMENT, () -> x.append('a' << 24 | 'b' << 16 | 1));
        is("nothing of it", x.append(0), 6);
        x.clear();
        Counted y = signs();
        put(y, "a".repeat(96));
        is("99", y.append('a' << 16 | 'b' << 8 | 'c'), 99);
        fails("101", STATE, () -> y.append('a' << 8 | 'b'));
        fails("a bad one ahead of too many", ARGUMENT, () -> y.append('a' << 16 | 'b' << 8 | 7));
        is("100", y.append('a' << 8), 100);
        fails("one more", STATE, () -> y.append('a'));
        is("none more", y.append(0), 100);
        Counted z = signs();
        z.append('a' << 24 | 'b' << 16 | 'c' << 8 | 'd');
        z.addSpan(0, 0, 1);
        same("order of the bytes", row(z, 0), "0-1=abcd");
        is("no change", z.book(6), 2);
    }

    private static void testAddSpan() {
        place = "promise 9";
        Counted x = signs();
        put(x, "a");
        fails("no tier", INDEX, () -> x.addSpan(1, 5, 5));
        fails("tier -1", INDEX, () -> x.addSpan(-1, 0, 1));
        is("buffer stays then", x.book(5), 1);
        is("first", x.addSpan(0, 100, 200), 0);
        is("buffer is empty", x.book(5), 0);
        is("before", add(x, 0, 0, 100, "abcdefgh"), 0);
        is("behind", add(x, 0, 200, 1000, "z"), 2);
        same("in order", row(x, 0), "0-100=abcdefgh 100-200=a 200-1000=z");
        Counted y = signs();
        malformed(y, "no label", 0, () -> y.addSpan(0, 0, 1));
        malformed(y, "9 letters", 8, () -> add(y, 0, 0, 1, "abcdefghi"));
        malformed(y, "a digit ahead of a bad range", 2, () -> add(y, 0, 7, 7, "ab1"));
        malformed(y, "a big letter", 0, () -> add(y, 0, 0, 1, "A"));
        malformed(y, "behind z", 0, () -> add(y, 0, 0, 1, "{"));
        malformed(y, "before a", 0, () -> add(y, 0, 0, 1, "`"));
        testAddRefused();
        testLabels();
        testHosts();
        testFull();
    }

    private static void testAddRefused() {
        Counted x = with(signs(), "0:0-100=a;0:100-200=b;0:200-1000=c");
        refuses(x, "same frames", 2, 1, () -> add(x, 0, 100, 200, "b"));
        is("buffer is empty when refused", x.book(5), 0);
        refuses(x, "the lowest of several", 2, 0, () -> add(x, 0, 99, 201, "b"));
        refuses(x, "the last frame", 2, 2, () -> add(x, 0, 999, 1000, "b"));
        refuses(x, "end 1001", 1, 0, () -> add(x, 0, 999, 1001, "b"));
        Counted y = signs();
        refuses(y, "first -1", 1, 0, () -> add(y, 0, -1, 10, "b"));
        refuses(y, "end is first", 1, 0, () -> add(y, 0, 10, 10, "b"));
        refuses(y, "end before first", 1, 0, () -> add(y, 0, 10, 9, "b"));
        refuses(y, "far out", 1, 0, () -> add(y, 0, Integer.MIN_VALUE, Integer.MAX_VALUE, "b"));
    }

    private static void testLabels() {
        Counted x = book(HOLDS, MOUTHINGS, WORDS);
        add(x, 0, 0, 1, "l");
        add(x, 0, 1, 2, "r");
        add(x, 0, 2, 3, "b");
        add(x, 1, 0, 1, "0");
        add(x, 1, 1, 2, "9");
        add(x, 2, 0, 1, "word");
        same("holds", row(x, 0), "0-1=l 1-2=r 2-3=b");
        same("mouthings", row(x, 1), "0-1=0 1-2=9");
        same("words", row(x, 2), "0-1=word");
        Counted y = book(HOLDS, MOUTHINGS, WORDS);
        malformed(y, "no hold", 0, () -> add(y, 0, 5, 6, "a"));
        malformed(y, "two holds", 1, () -> add(y, 0, 5, 6, "lr"));
        malformed(y, "no mouthing", 0, () -> add(y, 1, 5, 6, "a"));
        malformed(y, "two mouthings", 1, () -> add(y, 1, 5, 6, "12"));
        malformed(y, "no word", 0, () -> add(y, 2, 5, 6, "1"));
    }

    private static void testHosts() {
        Counted x = with(ruled(1), "0:10-20=a;0:20-30=b");
        refuses(x, "hosts that touch are no host", 3, 0, () -> add(x, 1, 19, 21, "i"));
        is("inside", add(x, 1, 10, 20, "i"), 0);
        is("inside the second one", add(x, 1, 29, 30, "i"), 1);
        refuses(x, "before both hosts", 3, 0, () -> add(x, 1, 9, 10, "i"));
        refuses(x, "behind both hosts", 3, 0, () -> add(x, 1, 30, 31, "i"));
        refuses(x, "the one in the way counts first", 2, 1, () -> add(x, 1, 25, 31, "i"));
        x.select(1);
        refuses(x, "the other annotator's are none", 3, 0, () -> add(x, 1, 10, 20, "i"));
        Counted y = with(ruled(2), "0:10-20=a;0:20-30=b");
        is("rule 2", add(y, 1, 20, 30, "s"), 0);
        refuses(y, "rule 2, another end", 3, 0, () -> add(y, 1, 10, 19, "s"));
        refuses(y, "rule 2, another first frame", 3, 0, () -> add(y, 1, 11, 20, "s"));
        Counted z = with(ruled(3), "0:10-20=a;0:20-30=b");
        is("rule 3", add(z, 1, 20, 999, "f"), 0);
        refuses(z, "rule 3, another first frame", 3, 0, () -> add(z, 1, 11, 20, "f"));
        is("rule 3, a shorter one", add(z, 1, 10, 11, "f"), 0);
    }

    private static void testFull() {
        Counted x = fill(signs(), 0, 3, "a");
        is("30 spans", x.tier(0, 3), 30);
        refuses(x, "31 spans", 5, 0, () -> add(x, 0, 500, 501, "a"));
        x.select(1);
        is("the other annotator has room", add(x, 0, 500, 501, "a"), 0);
        Counted y = fill(signs(), 0, 3, "a");
        refuses(y, "the range counts first", 1, 0, () -> add(y, 0, 500, 500, "a"));
        Counted z = fill(signs(), 0, 3, "a");
        refuses(z, "then the one in the way", 2, 29, () -> add(z, 0, 87, 88, "a"));
    }

    private static void testRemoveSpan() {
        place = "promise 10";
        Counted x = signs();
        x.addTier(HOLDS, 1, 0);
        x.addTier(MOUTHINGS, 2, 1);
        x.addTier(WORDS, 3, 0);
        x.addTier(WORDS, 0, 0);
        read(x, "0:0-50=a;0:50-99=b;1:10-20=l;1:20-30=r;1:60-70=b;2:10-20=1;2:60-70=2");
        read(x, "3:0-80=w;4:0-99=v");
        x.select(1);
        read(x, "0:0-50=a;1:1-2=l");
        x.select(0);
        fails("no span", INDEX, () -> x.removeSpan(0, 2));
        fails("span -1", INDEX, () -> x.removeSpan(0, -1));
        fails("no tier", INDEX, () -> x.removeSpan(5, 0));
        fails("tier -1", INDEX, () -> x.removeSpan(-1, 0));
        is("one without others", x.removeSpan(1, 1), 1);
        x.undo();
        is("with all that depend on it", x.removeSpan(0, 0), 5);
        same("signs", row(x, 0), "50-99=b");
        same("holds", row(x, 1), "60-70=b");
        same("mouthings", row(x, 2), "60-70=2");
        same("words", row(x, 3), "");
        same("free words", row(x, 4), "0-99=v");
        x.select(1);
        same("the other annotator", row(x, 0) + "," + row(x, 1), "0-50=a,1-2=l");
        x.select(0);
        is("changes", x.book(6), 8);
        x.undo();
        x.undo();
        x.undo();
        same("all back", row(x, 2) + "," + row(x, 3), "10-20=1 60-70=2,0-80=w");
        is("from the middle", x.removeSpan(1, 2), 2);
        is("from below", x.removeSpan(3, 0), 1);
    }

    private static Counted spansToMove() {
        Counted x = signs();
        x.addTier(HOLDS, 1, 0);
        x.addTier(MOUTHINGS, 3, 0);
        return with(x, "0:10-20=a;0:30-40=b;0:50-60=c;1:12-14=l;2:30-99=1");
    }

    private static void testMoveSpan() {
        place = "promise 11";
        Counted x = spansToMove();
        fails("no tier", INDEX, () -> x.moveSpan(3, 0, 0, 1));
        fails("no span ahead of the range", INDEX, () -> x.moveSpan(0, 3, 5, 5));
        fails("span -1", INDEX, () -> x.moveSpan(0, -1, 0, 1));
        is("not in its own way", x.moveSpan(0, 0, 12, 25), 0);
        is("guest of rule 3 needs no end", x.moveSpan(0, 1, 30, 31), 1);
        is("behind others", x.moveSpan(0, 2, 0, 5), 0);
        same("moved", row(x, 0), "0-5=c 12-25=a 30-31=b");
        is("to the end", x.moveSpan(0, 0, 999, 1000), 2);
        is("a guest gets along", x.moveSpan(1, 0, 24, 25), 0);
        is("same frames are a change", x.moveSpan(1, 0, 24, 25), 0);
        is("changes", x.book(6), 8);
        testMoveRefused();
    }

    private static void testMoveRefused() {
        Counted x = spansToMove();
        refuses(x, "range", 1, 0, () -> x.moveSpan(0, 0, 10, 10));
        refuses(x, "range below", 1, 0, () -> x.moveSpan(0, 0, -1, 10));
        refuses(x, "range above", 1, 0, () -> x.moveSpan(0, 0, 900, 1001));
        refuses(x, "in the way, ahead of hosts", 2, 2, () -> x.moveSpan(0, 0, 59, 70));
        Counted w = spansToMove();
        refuses(w, "the lowest in the way", 2, 1, () -> w.moveSpan(0, 0, 0, 1000));
        refuses(w, "no host", 3, 0, () -> w.moveSpan(1, 0, 19, 21));
        refuses(w, "leaves its guest", 4, 1, () -> w.moveSpan(0, 0, 13, 20));
        refuses(w, "leaves its guest of rule 3", 4, 2, () -> w.moveSpan(0, 1, 31, 40));
        Counted y = signs();
        y.addTier(WORDS, 0, 0);
        y.addTier(WORDS, 2, 0);
        y.addTier(WORDS, 1, 0);
        read(y, "0:10-20=a;0:30-40=b;3:12-13=x;2:10-20=y");
        refuses(y, "the lowest tier", 4, 2, () -> y.moveSpan(0, 0, 50, 60));
        y.removeSpan(2, 0);
        refuses(y, "the other tier", 4, 3, () -> y.moveSpan(0, 0, 50, 60));
    }

    private static void testMoveToOtherHost() {
        place = "promise 11";
        Counted x = signs();
        x.addTier(WORDS, 1, 0);
        read(x, "0:10-20=a;0:30-40=b;1:12-13=x");
        is("the guest moves to another host", x.moveSpan(1, 0, 32, 33), 0);
        is("its host now", x.span(1, 0, 3), 1);
        is("the former one is free to go", x.moveSpan(0, 0, 50, 60), 1);
        is("its number now", x.span(1, 0, 3), 0);
    }

    private static void testRename() {
        place = "promise 12";
        Counted x = signs();
        x.addTier(HOLDS, 0, 0);
        read(x, "0:0-5=a;1:0-5=l");
        put(x, "b");
        fails("no tier", INDEX, () -> x.rename(2, 0));
        fails("no span", INDEX, () -> x.rename(0, 1));
        fails("span -1", INDEX, () -> x.rename(0, -1));
        is("buffer stays then", x.book(5), 1);
        is("another label", x.rename(0, 0), 1);
        is("buffer is empty", x.book(5), 0);
        is("the same label", rename(x, 0, 0, "b"), 0);
        is("both are changes", x.book(6), 5);
        is("a longer one", rename(x, 0, 0, "ba"), 1);
        same("label", row(x, 0), "0-5=ba");
        malformed(x, "of another kind", 0, () -> rename(x, 1, 0, "a"));
        malformed(x, "too long", 1, () -> rename(x, 1, 0, "ll"));
        malformed(x, "empty", 0, () -> x.rename(1, 0));
        malformed(x, "9 letters", 8, () -> rename(x, 0, 0, "aaaaaaaaaa"));
        x.undo();
        same("undone", row(x, 0), "0-5=b");
    }

    private static Counted spansToSplit() {
        Counted x = signs();
        x.addTier(HOLDS, 1, 0);
        x.addTier(MOUTHINGS, 2, 0);
        x.addTier(WORDS, 3, 0);
        return with(x, "0:10-30=ab;0:40-50=c;1:12-14=l;1:20-22=r;3:40-60=w");
    }

    private static void testSplit() {
        place = "promise 13";
        Counted x = spansToSplit();
        fails("no tier", INDEX, () -> x.split(4, 0, 1));
        fails("no span ahead of the frame", INDEX, () -> x.split(0, 2, -5));
        refuses(x, "without a host for a part", 3, 0, () -> x.split(3, 0, 50));
        is("between guests", x.split(0, 0, 20), 3);
        same("both parts", row(x, 0), "10-20=ab 20-30=ab 40-50=c");
        is("the guest has the second part", x.span(1, 1, 3), 1);
        is("a part of rule 1", x.split(1, 0, 13), 3);
        read(x, "2:40-50=7");
        refuses(x, "rule 2 for both parts", 3, 0, () -> x.split(2, 0, 45));
        refuses(x, "a guest of rule 2", 4, 2, () -> x.split(0, 2, 45));
        x.removeSpan(2, 0);
        is("a guest of rule 3 has the first part", x.split(0, 2, 45), 4);
        is("both parts have a host of rule 3", x.split(3, 0, 45), 2);
        testSplitRefused();
    }

    private static void testSplitRefused() {
        Counted x = spansToSplit();
        refuses(x, "at the first frame", 1, 0, () -> x.split(0, 0, 10));
        refuses(x, "at the end", 1, 0, () -> x.split(0, 0, 30));
        refuses(x, "far out", 1, 0, () -> x.split(0, 0, Integer.MIN_VALUE));
        Counted u = spansToSplit();
        refuses(u, "through a guest", 4, 1, () -> u.split(0, 0, 21));
        refuses(u, "through the other guest", 4, 1, () -> u.split(0, 0, 13));
        Counted y = fullToSplit();
        refuses(y, "31 spans", 5, 0, () -> y.split(0, 3, 35));
        Counted z = fullToSplit();
        refuses(z, "the frame counts first", 1, 0, () -> z.split(0, 3, 40));
        Counted v = fullToSplit();
        add(v, 1, 34, 36, "g");
        refuses(v, "then the guest", 4, 1, () -> v.split(0, 3, 35));
        Counted w = fullToSplit();
        refuses(w, "the last one", 5, 0, () -> w.split(0, 29, 299));
    }

    private static Counted fullToSplit() {
        Counted x = ruled(1);
        for (int i = 0; i < 30; i++) {
            add(x, 0, 10 * i, 10 * i + 10, "a");
        }
        return x;
    }

    private static void testJoin() {
        place = "promise 14";
        Counted x = signs();
        x.addTier(HOLDS, 1, 0);
        x.addTier(MOUTHINGS, 2, 0);
        x.addTier(WORDS, 3, 0);
        read(x, "0:10-20=a;0:25-30=b;0:40-50=c;1:12-14=l;1:26-27=r");
        fails("no tier", INDEX, () -> x.join(-1, 0));
        fails("no span", INDEX, () -> x.join(0, 3));
        refuses(x, "no next one", 1, 0, () -> x.join(0, 2));
        refuses(x, "no host for both", 3, 0, () -> x.join(1, 0));
        is("joined", x.join(0, 0), 2);
        same("over the frames between, with the former label", row(x, 0), "10-30=a 40-50=c");
        is("guests keep a host", x.span(1, 1, 3), 0);
        is("now the guests, too", x.join(1, 0), 1);
        same("them", row(x, 1), "12-27=l");
        add(x, 2, 40, 50, "5");
        refuses(x, "a guest of rule 2 of the latter", 4, 2, () -> x.join(0, 0));
        x.removeSpan(2, 0);
        add(x, 3, 40, 41, "w");
        refuses(x, "a guest of rule 3 of the latter", 4, 3, () -> x.join(0, 0));
        x.removeSpan(3, 0);
        add(x, 3, 10, 11, "w");
        is("a guest of rule 3 of the former", x.join(0, 0), 1);
        Counted y = signs();
        y.addTier(WORDS, 2, 0);
        read(y, "0:0-1=a;0:1-2=b;1:0-1=x");
        refuses(y, "a guest of rule 2 of the former", 4, 1, () -> y.join(0, 0));
        Counted z = signs();
        fill(z, 0, 3, "a");
        is("of 30", z.join(0, 28), 29);
    }

    private static void testSpan() {
        place = "promise 15";
        Counted x = signs();
        x.addTier(HOLDS, 1, 0);
        x.addTier(MOUTHINGS, 3, 0);
        x.addTier(WORDS, 2, 2);
        read(x, "0:0-10=abc;0:10-1000=abcdefgh;1:12-14=l;1:14-15=l;1:0-1=r;2:10-12=3");
        read(x, "3:10-12=w");
        int[][][] due = {
            {{0, 10, 3, -1, 1}, {10, 1000, 8, -1, 3}}, {{0, 1, 1, 0, 0}, {12, 14, 1, 1, 0}, {14, 15, 1, 1, 0}},
            {{10, 12, 1, 1, 1}}, {{10, 12, 1, 0, 0}}
        };
        for (int tier = 0; tier < due.length; tier++) {
            for (int span = 0; span < due[tier].length; span++) {
                for (int what = 0; what < 5; what++) {
                    String call = "span(" + tier + ", " + span + ", " + what + ")";
                    is(call, x.span(tier, span, what), due[tier][span][what]);
                }
            }
        }
        fails("no tier", INDEX, () -> x.span(4, 0, 0));
        fails("no span ahead of what", INDEX, () -> x.span(0, 2, 9));
        fails("span -1", INDEX, () -> x.span(0, -1, 0));
        fails("what -1", ARGUMENT, () -> x.span(0, 0, -1));
        fails("what 5", ARGUMENT, () -> x.span(0, 0, 5));
    }

    private static void testLetter() {
        place = "promise 16";
        Counted x = signs();
        x.addTier(MOUTHINGS, 0, 0);
        read(x, "0:0-10=abcdefgz;0:10-20=q;1:0-1=0");
        is("first", x.letter(0, 0, 0), 'a');
        is("last of 8", x.letter(0, 0, 7), 'z');
        is("only one", x.letter(0, 1, 0), 'q');
        is("a digit", x.letter(1, 0, 0), '0');
        fails("index 8", NONE, () -> x.letter(0, 0, 8));
        fails("index -1", NONE, () -> x.letter(0, 0, -1));
        fails("behind a short one", NONE, () -> x.letter(0, 1, 1));
        fails("a far index", NONE, () -> x.letter(0, 1, Integer.MAX_VALUE));
        fails("no span ahead of the index", INDEX, () -> x.letter(0, 2, 9));
        fails("no tier", INDEX, () -> x.letter(2, 0, 0));
    }

    private static void testSpanAt() {
        place = "promise 17";
        Counted x = signs();
        read(x, "0:10-20=a;0:20-21=b;0:999-1000=c");
        int[][] due = {{9, -1}, {10, 0}, {19, 0}, {20, 1}, {21, -1}, {999, 2}, {1000, -1}, {-1, -1}, {0, -1},
            {Integer.MAX_VALUE, -1}, {Integer.MIN_VALUE, -1}};
        for (int[] d : due) {
            is("frame " + d[0], x.spanAt(0, d[0]), d[1]);
        }
        fails("no tier", INDEX, () -> x.spanAt(1, 0));
        fails("tier -1", INDEX, () -> x.spanAt(-1, 0));
        x.select(1);
        is("not the other one's", x.spanAt(0, 10), -1);
    }

    private static void testRefusal() {
        place = "promise 18";
        Counted x = signs();
        fails("nothing was refused", NONE, () -> x.refusal(true));
        fails("nor a number", NONE, () -> x.refusal(false));
        fails("malformed is not refused", ARGUMENT, () -> x.addSpan(0, 0, 0));
        fails("still nothing", NONE, () -> x.refusal(true));
        read(x, "0:0-5=a;0:10-15=b");
        refuses(x, "the other span", 2, 1, () -> add(x, 0, 14, 20, "c"));
        add(x, 0, 20, 21, "d");
        is("stays behind a success", x.refusal(false), 1);
        fails("refused text", REFUSED, () -> read(x, "0:6-7=a;0:7-8=b;0:12-13=c"));
        is("the number with the items ahead", x.refusal(false), 3);
        is("reason", x.refusal(true), 2);
        x.undo();
        is("is not undone", x.refusal(true), 2);
        refuses(x, "the latest counts", 1, 0, () -> x.split(0, 0, 0));
    }

    private static void testAligned() {
        place = "promise 19";
        Counted x = signs();
        x.addTier(WORDS, 0, 0);
        read(x, "0:0-10=a;0:20-30=b;0:40-50=c;1:5-15=x;1:15-25=y;1:45-55=z");
        is("first", x.aligned(0, 1, 0), 0);
        is("second", x.aligned(0, 1, 1), 1);
        is("third", x.aligned(0, 1, 2), 2);
        is("back", x.aligned(1, 0, 2), 2);
        is("with itself", x.aligned(1, 1, 1), 1);
        x.setSetting(0, 9);
        is("too far", x.aligned(0, 1, 0), -1);
        x.setSetting(0, 10);
        is("just near", x.aligned(0, 1, 0), 0);
        fails("no tier", INDEX, () -> x.aligned(2, 0, 0));
        fails("no other", INDEX, () -> x.aligned(0, 2, 0));
        fails("other -1", INDEX, () -> x.aligned(0, -1, 0));
        fails("no span", INDEX, () -> x.aligned(0, 1, 3));
        fails("span -1", INDEX, () -> x.aligned(0, 1, -1));
        Counted y = signs();
        y.addTier(WORDS, 0, 0);
        read(y, "0:10-20=a;0:20-30=b;1:10-30=x");
        is("of equal sums the first one gets it", y.aligned(0, 1, 0), 0);
        is("and the second one none", y.aligned(0, 1, 1), -1);
        is("of equal ones the lower one", y.aligned(1, 0, 0), 0);
        Counted z = signs();
        z.addTier(WORDS, 0, 0);
        read(z, "0:100-110=a;0:110-120=b;1:80-90=x;1:104-114=y");
        is("more pairs count before nearer ones", z.aligned(0, 1, 0), 0);
        is("with the second one", z.aligned(0, 1, 1), 1);
        z.setSetting(0, 20);
        is("nearer with the smaller window", z.aligned(0, 1, 0), 1);
        is("and none for the second one", z.aligned(0, 1, 1), -1);
    }

    private static void testAlignment() {
        place = "promise 20";
        Counted x = signs();
        x.addTier(WORDS, 0, 0);
        x.addTier(MOUTHINGS, 0, 0);
        read(x, "0:0-10=a;0:20-30=b;0:40-50=c;1:5-16=x;1:16-25=y;1:45-55=z");
        is("pairs", x.alignment(0, 1, true), 3);
        is("sum", x.alignment(0, 1, false), 30);
        is("pairs back", x.alignment(1, 0, true), 3);
        is("with an empty one", x.alignment(0, 2, true), 0);
        is("no sum", x.alignment(2, 0, false), 0);
        is("with itself", x.alignment(0, 0, true), 3);
        is("no distance", x.alignment(0, 0, false), 0);
        x.setSetting(0, 10);
        is("fewer pairs", x.alignment(0, 1, true), 2);
        is("their sum", x.alignment(0, 1, false), 19);
        x.setSetting(0, 0);
        is("window 0", x.alignment(0, 0, true), 3);
        fails("no tier", INDEX, () -> x.alignment(3, 0, true));
        fails("no other", INDEX, () -> x.alignment(0, 3, false));
        fails("tier -1", INDEX, () -> x.alignment(-1, 0, true));
        x.select(1);
        is("the present one's spans", x.alignment(0, 0, true), 0);
        Counted y = signs();
        y.addTier(WORDS, 0, 0);
        fill(y, 0, 3, "a");
        for (int i = 0; i < 30; i++) {
            add(y, 1, i * 3 + 1, i * 3 + 2, "a");
        }
        is("30 pairs", y.alignment(0, 1, true), 30);
        is("their sum", y.alignment(0, 1, false), 60);
        is("the last one", y.aligned(0, 1, 29), 29);
    }

    private static Counted spansToSearch() {
        return with(book(SIGNS, HOLDS), "0:0-10=a;0:10-20=b;0:40-50=a;1:5-15=l;1:15-16=r;1:45-46=b");
    }

    private static void testSearch() {
        place = "promise 21";
        Counted x = spansToSearch();
        is("one label", search(x, "0=a"), 2);
        is("buffer is empty", x.book(5), 0);
        is("any", search(x, "0=*"), 3);
        is("none", search(x, "0=c"), 0);
        is("a longer label", search(x, "0=aa"), 0);
        is("left or both", search(x, "1=l"), 2);
        is("right or both", search(x, "1=r"), 2);
        is("both alone", search(x, "1=b"), 1);
        is("any hold", search(x, "1=*"), 3);
        is("one behind", search(x, "0=*,0=*"), 2);
        is("overlapping", search(x, "0=*&1=*"), 4);
        is("the same span", search(x, "0=a&0=a&0=*"), 2);
        is("four parts", search(x, "0=a&1=l&0=b&1=r"), 1);
        x.setSetting(1, 0);
        is("gap 0 takes what touches", search(x, "0=*,0=*"), 1);
        x.setSetting(1, 19);
        is("gap 19", search(x, "0=b,0=a"), 0);
        x.setSetting(1, 20);
        is("gap 20", search(x, "0=b,0=a"), 1);
        testMalformedPatterns();
        testManyMatches();
    }

    private static void testMalformedPatterns() {
        String[] texts = {"", "2=a", "0:a", "0=", "0=a*", "0=*a", "0=abcdefghi", "1=a", "1=lr", "0=a;0=b", "0=a,",
            "0=a,0=b&0=a,0=b,0=x", "0=a,0=b&0=a,0=b&"};
        int[] positions = {0, 0, 1, 2, 3, 3, 10, 2, 3, 3, 4, 15, 15};
        for (int i = 0; i < texts.length; i++) {
            String text = texts[i];
            Counted x = spansToSearch();
            search(x, "0=b,0=a");
            malformed(x, "pattern '" + text + "'", positions[i], () -> search(x, text));
            is("the latest pattern stays", x.book(7), 2);
            is("its match", x.match(0, 0), 1);
            is("no change", x.book(6), 3);
        }
    }

    private static void testManyMatches() {
        Counted x = signs();
        fill(x, 0, 1, "a");
        x.setSetting(1, 200);
        is("435 pairs", search(x, "0=a,0=a"), 435);
        is("4060 threes", search(x, "0=a,0=a,0=a"), 1000);
        is("27405 fours", search(x, "0=*,0=a,0=*,0=a"), 1000);
        is("none of them", search(x, "0=*,0=a,0=*,0=b"), 0);
        for (int i = 0; i < 19; i++) {
            x.removeSpan(0, 0);
        }
        is("165 threes of 11", search(x, "0=*,0=*,0=*"), 165);
        is("330 fours of 11", search(x, "0=*,0=*,0=*,0=*"), 330);
        is("first of the last one", x.match(329, 0), 7);
        is("last of the last one", x.match(329, 3), 10);
    }

    private static void testMatch() {
        place = "promise 22";
        Counted x = signs();
        fails("no pattern", STATE, () -> x.match(-1, -1));
        x.addTier(HOLDS, 0, 0);
        read(x, "0:0-10=a;0:10-20=b;0:40-50=a;1:5-15=l;1:15-16=r;1:45-46=b");
        is("matches", search(x, "0=*&1=*"), 4);
        int[][] due = {{0, 0}, {1, 0}, {1, 1}, {2, 2}};
        for (int match = 0; match < due.length; match++) {
            is("match " + match + " item 0", x.match(match, 0), due[match][0]);
            is("match " + match + " item 1", x.match(match, 1), due[match][1]);
        }
        fails("match 4", NONE, () -> x.match(4, 0));
        fails("match -1", NONE, () -> x.match(-1, 0));
        fails("item 2", NONE, () -> x.match(0, 2));
        fails("item -1", NONE, () -> x.match(0, -1));
        x.removeSpan(0, 0);
        is("as the spans are now", x.match(0, 0), 0);
        fails("match 3 now", NONE, () -> x.match(3, 0));
        x.select(1);
        fails("as the annotator is now", NONE, () -> x.match(0, 0));
        x.select(0);
        x.undo();
        x.undo();
        x.undo();
        is("back", x.match(3, 1), 2);
        testOldPattern();
        testLastMatch();
    }

    private static void testOldPattern() {
        Counted x = signs();
        x.addTier(WORDS, 0, 0);
        add(x, 1, 0, 1, "a");
        is("a word", search(x, "1=*"), 1);
        x.undo();
        x.undo();
        fails("the tier is gone", NONE, () -> x.match(0, 0));
        is("the pattern stays", x.book(7), 1);
        x.addTier(SIGNS, 0, 0);
        add(x, 1, 0, 1, "a");
        fails("it has another kind", NONE, () -> x.match(0, 0));
        x.undo();
        x.undo();
        x.addTier(WORDS, 0, 0);
        add(x, 1, 0, 1, "q");
        is("it has the kind again", x.match(0, 0), 0);
    }

    private static void testLastMatch() {
        Counted x = signs();
        x.setSetting(1, 200);
        fill(x, 0, 1, "a");
        is("many", search(x, "0=*,0=*,0=*"), 1000);
        is("match 405 is the last one with 0", x.match(405, 0), 0);
        is("its second", x.match(405, 1), 28);
        is("its third", x.match(405, 2), 29);
        is("match 406 is the first one with 1", x.match(406, 0), 1);
        is("match 999", x.match(999, 0), 2);
        is("its second", x.match(999, 1), 13);
        is("its third", x.match(999, 2), 14);
        fails("match 1000", NONE, () -> x.match(1000, 0));
    }

    private static void merges(String zero, String one, String due, int conflicts, int dropped, int shared, int frames) {
        Counted x = both(zero, one);
        same("merge of " + zero + " and " + one, merge(x, 0), due);
        is("conflicts", x.merge(0, 1), conflicts);
        is("dropped", x.merge(0, 2), dropped);
        is("shared", x.merge(0, 3), shared);
        is("frames", x.merge(0, 4), frames);
    }

    private static void testMerge() {
        place = "promise 23";
        merges("", "", "", 0, 0, 0, 0);
        merges("0:0-10=a", "", "0-10/1", 0, 0, 0, 10);
        merges("", "0:0-10=a", "0-10/2", 0, 0, 0, 10);
        merges("0:0-10=a", "0:0-10=a", "0-10/3", 0, 0, 1, 10);
        merges("0:0-10=a", "0:5-15=a", "0-15/3", 0, 0, 1, 15);
        merges("0:0-10=a", "0:10-15=a", "0-10/1 10-15/2", 0, 0, 0, 15);
        merges("0:0-10=a", "0:5-15=b", "0-10/1 10-15/2", 1, 0, 0, 15);
        merges("0:0-10=a", "0:5-10=b", "0-10/1", 1, 1, 0, 10);
        merges("0:0-20=a", "0:5-10=b;0:12-15=a", "0-20/3", 1, 1, 1, 20);
        merges("0:5-15=b", "0:0-10=a", "0-10/2 10-15/1", 1, 0, 0, 15);
        merges("0:0-10=a", "0:0-10=b", "0-10/1", 1, 1, 0, 10);
        merges("0:0-10=a", "0:0-9=b", "0-9/2 9-10/1", 1, 0, 0, 10);
        merges("0:0-10=a;0:12-20=a", "0:8-14=a", "0-20/3", 0, 0, 1, 20);
        merges("0:0-10=a;0:10-20=a", "0:2-10=b;0:10-12=b", "0-10/1 10-12/2 12-20/1", 2, 1, 0, 20);
        Counted x = both("0:0-10=a", "0:5-15=a");
        x.select(0);
        is("whoever is present", x.merge(0, 3), 1);
        fails("no tier ahead of what", INDEX, () -> x.merge(1, 9));
        fails("tier -1", INDEX, () -> x.merge(-1, 0));
        fails("what -1", ARGUMENT, () -> x.merge(0, -1));
        fails("what 5", ARGUMENT, () -> x.merge(0, 5));
        Counted y = signs();
        fill(y, 0, 2, "a");
        y.select(1);
        for (int i = 0; i < 30; i++) {
            add(y, 0, i * 2 + 1, i * 2 + 2, "a");
        }
        is("60 spans", y.merge(0, 0), 60);
        is("60 frames", y.merge(0, 4), 60);
        is("the last one", y.merged(0, 59, 0), 59);
    }

    private static void testMerged() {
        place = "promise 24";
        Counted x = both("0:0-10=abc;0:30-40=d", "0:5-15=xy;0:35-50=d");
        int[][] due = {{0, 10, 1, 3}, {10, 15, 2, 2}, {30, 50, 3, 1}};
        for (int index = 0; index < due.length; index++) {
            for (int what = 0; what < 4; what++) {
                is("merged(0, " + index + ", " + what + ")", x.merged(0, index, what), due[index][what]);
            }
        }
        fails("no tier ahead of all", INDEX, () -> x.merged(1, 9, 9));
        fails("no index ahead of what", NONE, () -> x.merged(0, 3, 9));
        fails("index -1", NONE, () -> x.merged(0, -1, 0));
        fails("what 4", ARGUMENT, () -> x.merged(0, 2, 4));
        fails("what -1", ARGUMENT, () -> x.merged(0, 0, -1));
    }

    private static void testFrames() {
        place = "promise 25";
        Counted x = both("0:0-10=a;0:20-30=b;0:30-35=c", "0:5-25=a;0:28-33=c");
        int[] due = {25, 25, 8, 15, 35};
        for (int present = 0; present < 2; present++) {
            x.select(present);
            for (int what = 0; what < due.length; what++) {
                is("frames(0, " + what + ")", x.frames(0, what), due[what]);
            }
        }
        Counted y = both("0:0-1000=a", "0:0-1000=a");
        for (int what = 0; what < 5; what++) {
            is("all frames " + what, y.frames(0, what), 1000);
        }
        fails("no tier ahead of what", INDEX, () -> x.frames(1, 9));
        fails("what -1", ARGUMENT, () -> x.frames(0, -1));
        fails("what 5", ARGUMENT, () -> x.frames(0, 5));
    }

    private static void testAgreement() {
        place = "promise 26";
        is("a third", both("0:0-10=a", "0:5-15=a").agreement(0), 5f / 15f);
        is("none", both("0:0-10=a", "0:5-15=b").agreement(0), 0);
        is("all", both("0:0-10=a", "0:0-10=a").agreement(0), 1);
        is("one alone", both("", "0:0-10=a").agreement(0), 0);
        is("a seventh in float", both("0:0-7=a", "0:0-1=a").agreement(0), 1f / 7f);
        fails("no frames", ARITHMETIC, () -> both("", "").agreement(0));
        fails("no tier", INDEX, () -> both("", "").agreement(1));
        fails("tier -1", INDEX, () -> both("", "").agreement(-1));
    }

    private static void testKappa() {
        place = "promise 27";
        double p = 990 / 1000.0;
        double c = (10 * 10 + 990 * 990) / 1000000.0;
        is("half of both", both("0:0-10=a", "0:5-15=a").kappa(0), (p - c) / (1 - c));
        is("all the same", both("0:0-10=a;0:20-30=b", "0:0-10=a;0:20-30=b").kappa(0), 1);
        double c2 = (500.0 * 500 + 500 * 500) / 1000000.0;
        is("all else", both("0:0-500=a;0:500-1000=b", "0:0-500=b;0:500-1000=a").kappa(0), (0 - c2) / (1 - c2));
        double c3 = (300 * 350 + 100 * 50 + 600 * 600) / 1000000.0;
        double p3 = (200 + 450) / 1000.0;
        is("a label twice", both("0:0-100=a;0:200-400=a;0:400-500=b", "0:0-300=a;0:900-950=a;0:300-350=b").kappa(0),
            (p3 - c3) / (1 - c3));
        is("nothing in common", both("0:0-1000=a", "0:0-1000=b").kappa(0), 0);
        is("one alone", both("0:0-1000=a", "").kappa(0), 0);
        fails("all the one label", ARITHMETIC, () -> both("0:0-1000=a", "0:0-1000=a").kappa(0));
        fails("all the one label in parts", ARITHMETIC,
            () -> both("0:0-1000=a", "0:0-400=a;0:400-1000=a").kappa(0));
        fails("no label at all", ARITHMETIC, () -> both("", "").kappa(0));
        fails("no tier", INDEX, () -> both("", "").kappa(1));
    }

    private static void testIsConsistent() {
        place = "promise 28";
        Counted x = signs();
        is("without spans", x.isConsistent() ? 1 : 0, 1);
        x.addTier(HOLDS, 1, 0);
        x.addTier(MOUTHINGS, 2, 1);
        x.addTier(WORDS, 3, 0);
        read(x, "0:0-20=a;0:20-40=b;1:1-5=l;2:1-5=0;3:20-99=w");
        x.select(1);
        read(x, "0:0-1000=a;1:0-999=r");
        is("with spans", x.isConsistent() ? 1 : 0, 1);
        x.select(0);
        x.split(0, 0, 10);
        x.removeSpan(0, 0);
        x.removeSpan(3, 0);
        x.join(0, 0);
        is("behind changes", x.isConsistent() ? 1 : 0, 1);
    }

    private static void testRead() {
        place = "promise 29";
        Counted x = signs();
        x.addTier(HOLDS, 1, 0);
        x.addTier(MOUTHINGS, 0, 0);
        is("three", read(x, "0:10-20=a;1:12-14=b;2:0-1000=0"), 3);
        same("them", row(x, 0) + "," + row(x, 1) + "," + row(x, 2), "10-20=a,12-14=b,0-1000=0");
        is("one change", x.book(6), 4);
        is("buffer is empty", x.book(5), 0);
        is("in any order", read(x, "0:50-60=c;0:0-1=d"), 2);
        same("in order", row(x, 0), "0-1=d 10-20=a 50-60=c");
        refuses(x, "a host that comes later", 3, 0, () -> read(x, "1:70-71=l;0:70-71=e"));
        is("item 0", x.refusedItem(), 0);
        is("buffer is empty when refused", x.book(5), 0);
        is("a host that comes before", read(x, "0:70-71=e;1:70-71=l"), 2);
        Counted y = with(signs(), "0:0-1=d;0:10-20=a;0:50-60=c;0:70-71=e");
        refuses(y, "end 1001", 1, 0, () -> read(y, "0:80-90=a;0:999-1001=b"));
        is("item 1", y.refusedItem(), 1);
        refuses(y, "end 9999", 1, 0, () -> read(y, "0:80-9999=a"));
        refuses(y, "end 0", 1, 0, () -> read(y, "0:0-0=a"));
        refuses(y, "in the way of its own item", 2, 4, () -> read(y, "0:80-90=a;0:91-92=b;0:85-86=b"));
        testMalformed();
        Counted z = fill(signs(), 0, 3, "a");
        z.removeSpan(0, 29);
        refuses(z, "31 spans", 5, 0, () -> read(z, "0:500-501=a;0:600-601=a"));
        is("twelve items", read(signs(), "0:0-1=a;0:1-2=b;0:2-3=c;0:3-4=d;0:4-5=e;0:5-6=f;0:6-7=g;0:7-8=h;0:8-9=i;"
            + "0:9-10=j;0:10-11=k;0:11-12=l"), 12);
    }

    private static void testMalformed() {
        String[] texts = {"", "2:0-1=a", ":", "0", "0=", "0:", "0:-", "0:00-1=a", "0:01-1=a", "0:12345-1=a", "0:1",
            "0:1:", "0:1-", "0:1-=", "0:1-2", "0:1-2:", "0:1-12345", "0:1-2=", "0:1-2=A", "0:1-2=abcdefghi", "0:1-2=a,",
            "0:1-2=a;", "0:1-2=a;x", "1:1-2=a", "1:1-2=lr", "1:1-2=*", " 0:1-2=a", "0:1-2=a ", "0:1-2=a;;"};
        int[] positions = {0, 0, 0, 1, 1, 2, 2, 3, 3, 6, 3, 3, 4, 4, 5, 5, 8, 6, 6, 14, 7, 8, 8, 6, 7, 6, 0, 7, 8};
        for (int i = 0; i < texts.length; i++) {
            String text = texts[i];
            Counted y = book(SIGNS, HOLDS);
            malformed(y, "text '" + text + "'", positions[i], () -> read(y, text));
        }
        Counted x = signs();
        fails("malformed ahead of refused", ARGUMENT, () -> read(x, "0:5-5=a;0:1-1=a;x"));
        fails("nothing was refused", NONE, x::refusedItem);
        fails("without tiers", ARGUMENT, () -> read(new Counted(), "0:1-2=a"));
    }

    private static void testErrorPosition() {
        place = "promise 30";
        Counted x = signs();
        fails("none", NONE, x::errorPosition);
        malformed(x, "a label", 1, () -> add(x, 0, 0, 1, "a1"));
        malformed(x, "a text", 3, () -> read(x, "0:1"));
        malformed(x, "a pattern", 2, () -> search(x, "0=1"));
        read(x, "0:0-5=a");
        search(x, "0=a");
        is("stays", x.errorPosition(), 2);
        malformed(x, "a new label", 8, () -> rename(x, 0, 0, "abcdefghijk"));
        x.undo();
        x.clear();
        is("stays behind clear", x.errorPosition(), 8);
        String full = "0:0-1=a;".repeat(12) + "0:0-";
        x.addTier(SIGNS, 0, 0);
        malformed(x, "a full buffer", 100, () -> read(x, full));
    }

    private static void testRefusedItem() {
        place = "promise 31";
        Counted x = signs();
        fails("none", NONE, x::refusedItem);
        refuses(x, "a span is no text", 1, 0, () -> add(x, 0, 1, 1, "a"));
        fails("still none", NONE, x::refusedItem);
        refuses(x, "a text", 2, 0, () -> read(x, "0:0-1=a;0:1-2=b;0:0-2=c;0:0-2=d"));
        is("item", x.refusedItem(), 2);
        read(x, "0:0-1=a");
        is("stays", x.refusedItem(), 2);
        malformed(x, "malformed", 0, x::read);
        is("stays behind malformed ones", x.refusedItem(), 2);
        refuses(x, "another", 2, 0, () -> read(x, "0:0-1=a"));
        is("item 0", x.refusedItem(), 0);
    }

    /** The first changes of a row of fifteen, of all kinds. */
    private static Counted changed(int changes) {
        Counted x = new Counted();
        for (int i = 0; i < Math.min(6, changes); i++) {
            x.addTier(i % 4, i % 2 == 0 ? 0 : 1, 0);
        }
        Call[] calls = {() -> read(x, "0:0-10=a;0:10-20=b"), () -> add(x, 1, 2, 4, "l"), () -> x.moveSpan(0, 1, 11, 30),
            () -> rename(x, 0, 0, "z"), () -> x.split(0, 1, 15), () -> x.join(0, 1), () -> x.removeSpan(0, 0),
            () -> x.setSetting(0, 3), () -> x.select(1)};
        for (int i = 6; i < changes; i++) {
            calls[i - 6].go();
        }
        return x;
    }

    private static void testUndo() {
        place = "promise 32";
        fails("nothing", STATE, () -> new Counted().undo());
        for (int changes = 1; changes <= 15; changes++) {
            Counted x = changed(changes);
            is("changes", x.book(6), Math.min(8, changes));
            for (int left = changes - 1; left >= Math.max(0, changes - 8); left--) {
                is("undo", x.undo(), left - Math.max(0, changes - 8));
                same("state " + left, state(x), state(changed(left)));
            }
            fails("no ninth", STATE, x::undo);
            same("left as it was", state(x), state(changed(Math.max(0, changes - 8))));
        }
        testUndoAndChange();
    }

    private static void testUndoAndChange() {
        Counted x = changed(8);
        x.undo();
        x.undo();
        x.setSetting(1, 3);
        is("a change behind two of them", x.book(6), 7);
        is("undo", x.undo(), 6);
        same("back", state(x), state(changed(6)));
        is("undo", x.undo(), 5);
        same("further back", state(x), state(changed(5)));
        Counted y = changed(15);
        is("undo", y.undo(), 7);
        fails("refused is no change", REFUSED, () -> y.moveSpan(0, 0, 0, 0));
        fails("nor wrong", INDEX, () -> y.removeSpan(0, 9));
        is("still 7", y.book(6), 7);
    }

    /** What undo brings back, without the count of changes. */
    private static String state(Counted x) {
        StringBuilder s = new StringBuilder();
        for (int what = 0; what < 5; what++) {
            s.append(x.book(what)).append(',');
        }
        for (int tier = 0; tier < x.book(0); tier++) {
            s.append(x.tier(tier, 0)).append(x.tier(tier, 1)).append(x.tier(tier, 2)).append(row(x, tier)).append(';');
        }
        return s.toString();
    }

    private static void testSnapshot() {
        place = "promise 33";
        Counted x = new Counted();
        is("of nothing", x.snapshot(), 0);
        x.addTier(SIGNS, 0, 0);
        add(x, 0, 0, 5, "a");
        is("is no change", x.book(6), 2);
        is("replaces", x.snapshot(), 1);
        is("still no change", x.book(6), 2);
        is("can be undone behind it", x.undo(), 1);
        is("restore", x.restore(), 1);
        same("the newer one", row(x, 0), "0-5=a");
    }

    private static void testRestore() {
        place = "promise 34";
        Counted x = signs();
        fails("none", STATE, x::restore);
        x.select(1);
        x.setSetting(0, 1);
        x.setSetting(1, 2);
        add(x, 0, 0, 5, "a");
        x.snapshot();
        String due = state(x);
        x.addTier(HOLDS, 0, 0);
        x.select(0);
        add(x, 0, 7, 9, "b");
        x.setSetting(0, 100);
        search(x, "1=*&0=*");
        put(x, "xyz");
        is("restore", x.restore(), 1);
        same("state", state(x), due);
        is("nothing to undo", x.book(6), 0);
        fails("undo", STATE, x::undo);
        is("the buffer stays", x.book(5), 3);
        is("the pattern stays", x.book(7), 2);
        fails("fitted by none", NONE, () -> x.match(0, 0));
        x.addTier(WORDS, 0, 0);
        is("a change again", x.book(6), 1);
        is("once more", x.restore(), 1);
        same("state again", state(x), due);
        x.select(0);
        same("spans of 0", row(x, 0), "");
    }

    public static void main(String[] args) {
        testNew();
        testClear();
        testAddTier();
        testSelect();
        testSetSetting();
        testTier();
        testBook();
        testAppend();
        testAddSpan();
        testRemoveSpan();
        testMoveSpan();
        testMoveToOtherHost();
        testRename();
        testSplit();
        testJoin();
        testSpan();
        testLetter();
        testSpanAt();
        testRefusal();
        testAligned();
        testAlignment();
        testSearch();
        testMatch();
        testMerge();
        testMerged();
        testFrames();
        testAgreement();
        testKappa();
        testIsConsistent();
        testRead();
        testErrorPosition();
        testRefusedItem();
        testUndo();
        testSnapshot();
        testRestore();
        end();
    }
}
