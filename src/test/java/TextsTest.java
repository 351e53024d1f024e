import java.io.IOException;
import java.util.function.ToDoubleFunction;

/** Each sentence of the document's description on texts and changes, with calls that find it broken. */
public final class TextsTest extends Sentences {
    private static void testBuffer() {
        says("The input buffer holds up to 100 characters with codes from 32 to 126");
        Counted x = put(signs(), "a".repeat(99));
        is("the 100th", x.append('b'), 100);
        leaves(x, "the 101st", STATE, () -> x.append('c'));
        is("none more", x.append(0), 100);
        for (int sign = 1; sign < 256; sign++) {
            boolean isOne = sign >= 32 && sign <= 126;
            for (int shift = 0; shift < 32; shift += 8) {
                Counted y = new Counted();
                int packed = sign << shift;
                fails("the code " + sign, isOne ? null : ARGUMENT, () -> y.append(packed));
                is("characters", y.book(5), isOne ? 1 : 0);
            }
        }
    }

    private static void reads(String text, int spans) {
        is("reading " + text, read(book(WORDS, WORDS), text), spans);
    }

    private static void readsNot(String text, int position) {
        Counted x = book(WORDS, WORDS);
        malformed(x, "reading '" + text + "'", position, () -> read(x, text));
    }

    private static void finds(String text, int parts) {
        Counted x = book(WORDS, WORDS);
        is("searching " + text, search(x, text), 0);
        is("parts", x.book(7), parts);
    }

    private static void findsNot(String text, int position) {
        Counted x = book(WORDS, WORDS);
        malformed(x, "searching '" + text + "'", position, () -> search(x, text));
        is("parts", x.book(7), 0);
    }

    private static void testTexts() {
        says("text = item { \";\" item }");
        reads("0:0-1=a", 1);
        reads("0:0-1=a;1:1-2=b", 2);
        reads("0:0-1=a;0:1-2=b;0:2-3=c;0:3-4=d;0:4-5=e;0:5-6=f;0:6-7=g;0:7-8=h;0:8-9=i;0:9-10=j;0:10-11=k;0:11-12=l", 12);
        readsNot("", 0);
        readsNot(";", 0);
        readsNot(";0:0-1=a", 0);
        readsNot("0:0-1=a;", 8);
        readsNot("0:0-1=a;;0:1-2=b", 8);
        readsNot("0:0-1=a,0:1-2=b", 7);
        readsNot("0:0-1=a&0:1-2=b", 7);
        readsNot("0:0-1=a 0:1-2=b", 7);
        readsNot("0:0-1=a;0:1-2=b;", 16);
        says("item = tier \":\" number \"-\" number \"=\" label");
        String[] texts = {":1-2=a", "01-2=a", "0=1-2=a", "0:-2=a", "0:1=a", "0:1:2=a", "0:1-=a", "0:1-2a", "0:1-2:a",
            "0:1-2=", "0:1-2=*", " 0:1-2=a", "0 :1-2=a", "0: 1-2=a", "0:1 -2=a", "0:1- 2=a", "0:1-2 =a", "0:1-2= a",
            "0:1-2=a ", "0:1-2==a", "0::1-2=a", "0:1--2=a", "0:-1-2=a"};
        int[] positions = {0, 1, 1, 2, 3, 3, 4, 5, 5, 6, 6, 0, 1, 2, 3, 4, 5, 6, 7, 6, 2, 4, 2};
        for (int i = 0; i < texts.length; i++) {
            readsNot(texts[i], positions[i]);
        }
        says("braces mean zero or more repetitions and brackets that something may be missing");
        reads("1:0-1000=abcdefgh", 1);
        finds("1=abcdefgh", 1);
    }

    private static void testPatternTexts() {
        says("pattern = part { ( \",\" | \"&\" ) part }");
        finds("0=a", 1);
        finds("0=a,1=b", 2);
        finds("0=a&1=b", 2);
        finds("0=a&1=b,0=*&1=*", 4);
        findsNot("", 0);
        findsNot(",", 0);
        findsNot("&0=a", 0);
        findsNot("0=a,", 4);
        findsNot("0=a&", 4);
        findsNot("0=a,,0=a", 4);
        findsNot("0=a,&0=a", 4);
        findsNot("0=a;0=a", 3);
        findsNot("0=a 0=a", 3);
        findsNot("0=a|0=a", 3);
        says("part = tier \"=\" ( label | \"*\" )");
        finds("1=*", 1);
        String[] texts = {"0", "=a", "*", "a", "0a", "0:a", "0=", "0==a", "0=**", "0=*a", "0=a*", "0=(a)", " 0=a", "0= a", "0=a ",
            "0 =a", "0=*,1", "0=*,1=", "0=*&1=a*"};
        int[] positions = {1, 0, 0, 0, 1, 1, 2, 2, 3, 3, 3, 2, 0, 2, 3, 1, 5, 6, 7};
        for (int i = 0; i < texts.length; i++) {
            findsNot(texts[i], positions[i]);
        }
        says("A pattern has at most 4 parts; a \",\" or \"&\" behind the fourth part is an error at its place");
        String four = "0=a,0=b&1=*,0=d";
        finds(four, 4);
        findsNot(four + ",", 15);
        findsNot(four + "&", 15);
        findsNot(four + ",0=e", 15);
        findsNot(four + "&0=e", 15);
        findsNot(four + ",?", 15);
        findsNot("0=*&0=*&0=*&0=*&", 15);
        findsNot("0=abcdefgh,0=b,0=c,0=d,0=e", 22);
        findsNot("0=a,0=b,0=c,0=", 14);
        findsNot("0=a,0=b,0=c,", 12);
    }

    private static void testTokens() {
        says("A tier is a digit of a tier that there is");
        for (int tiers = 0; tiers <= 6; tiers++) {
            for (char digit = '/'; digit <= ':'; digit++) {
                Counted x = book(new int[tiers]);
                String tier = "" + digit;
                if (digit >= '0' && digit < '0' + tiers) {
                    is("reading the tier " + tier + " of " + tiers, read(x, tier + ":0-1=a"), 1);
                    is("searching it", search(x, tier + "=a"), 1);
                } else {
                    malformed(x, "reading the tier " + tier + " of " + tiers, 0, () -> read(x, tier + ":0-1=a"));
                    malformed(x, "searching it", 0, () -> search(x, tier + "=a"));
                }
            }
        }
        readsNot("00:0-1=a", 1);
        readsNot("0:0-1=a;2:0-1=a", 8);
        findsNot("10=a", 1);
        findsNot("0=a,2=a", 4);
        says("a number has 1 to 4 digits and no leading zero unless it is 0");
        for (String number : new String[] {"0", "1", "9", "10", "99", "100", "999", "1000", "1001", "9999"}) {
            int frame = Integer.parseInt(number);
            Counted x = put(signs(), "0:" + number + "-1000=a");
            fails("first frame " + number, frame < 1000 ? null : REFUSED, x::read);
            Counted y = put(signs(), "0:0-" + number + "=a");
            fails("end " + number, frame > 0 && frame <= 1000 ? null : REFUSED, y::read);
        }
        String[] numbers = {"00", "01", "09", "010", "0000", "00001", "10000", "12345", "99999", "1.", "+1", "a"};
        int[] positions = {1, 1, 1, 1, 1, 1, 4, 4, 4, 1, 0, 0};
        for (int i = 0; i < numbers.length; i++) {
            readsNot("0:" + numbers[i] + "-1000=a", 2 + positions[i]);
            readsNot("0:0-" + numbers[i] + "=a", 4 + positions[i]);
        }
        says("a label is one of the kind of the tier");
        for (int kind = 0; kind < 4; kind++) {
            for (int of = 0; of < 4; of++) {
                Counted x = book(SIGNS, HOLDS, MOUTHINGS, WORDS);
                boolean isNameOf = (kind == SIGNS || kind == WORDS) && of != MOUTHINGS;
                Class<?> due = of == kind || isNameOf ? null : ARGUMENT;
                String tier = "" + kind;
                String label = LABELS[of];
                fails("item", due, () -> read(x, tier + ":0-1=" + label));
                fails("part", due, () -> search(x, tier + "=" + label));
            }
        }
    }

    /** A text with a wrong character at each place, and each beginning of it that is no whole text. */
    private static void testBroken(String text, String whole, boolean isPattern) {
        for (int i = 0; i <= text.length(); i++) {
            String begun = text.substring(0, i);
            Counted x = book(WORDS, WORDS);
            malformed(x, "'" + begun + "?'", i, () -> isPattern ? search(x, begun + "?0:0") : read(x, begun + "?0:0"));
            if (!begun.matches(whole)) {
                malformed(x, "'" + begun + "'", i, () -> isPattern ? search(x, begun) : read(x, begun));
            }
        }
    }

    private static void testErrorPositions() {
        says("the lowest index of a character with which, after the characters before it, no such text can go on");
        readsNot("0:01-99999=A;", 3);
        readsNot("9:01-99999=A;", 0);
        readsNot("0:1-2=abcdefghijk", 14);
        readsNot("0:1-2=a;0:3-4=b;x:5-6=c;y", 16);
        findsNot("0=A,9=B", 2);
        findsNot("0=a,9=B", 4);
        findsNot("0=abcdefghi,", 10);
        readsNot("0:0-1=a;".repeat(12) + "0:0-", 100);
        readsNot("0:0-1=a;".repeat(12) + "0:0_", 99);
        says("or the length of the text if there is no such index");
        readsNot("0:12-345=abc;1:0", 16);
        findsNot("0=abc,1", 7);
        String item = "0:(0|[1-9]\\d{0,3})-(0|[1-9]\\d{0,3})=[a-z]{1,8}";
        testBroken("0:12-3450=abcdefgh;0:0-9=z", item + "(;" + item + ")*", false);
        testBroken("0=abcdefgh,0=*&1=z,0=x", "[01]=([a-z]{1,8}|\\*)([,&][01]=([a-z]{1,8}|\\*))*", true);
    }

    /** Three changes: two tiers, and a text with four spans. */
    private static Counted changed() {
        return with(ruled(1), "0:0-10=a;0:10-20=b;0:30-40=c;1:2-4=w");
    }

    /** A call that is a change: it can be undone, and then all is as before. */
    private static void changes(String what, ToDoubleFunction<Counted> call, boolean isNothing) {
        Counted x = changed();
        String before = told(x);
        call.applyAsDouble(x);
        is("changes behind " + what, x.book(6), 4);
        boolean isSame = told(x).equals(before.replace(",3,[", ",4,["));
        is("nothing changes by " + what, isSame ? 1 : 0, isNothing ? 1 : 0);
        is("undoing " + what, x.undo(), 3);
        same("all behind the undo of " + what, told(x), before);
    }

    private static void testChanges() {
        says("The changes are the successful calls");
        changes("addTier", x -> x.addTier(0, 0, 0), false);
        changes("select", x -> x.select(1), false);
        changes("setSetting of the window", x -> x.setSetting(0, 1), false);
        changes("setSetting of the gap", x -> x.setSetting(1, 1), false);
        changes("addSpan", x -> add(x, 0, 50, 60, "z"), false);
        changes("removeSpan", x -> x.removeSpan(0, 0), false);
        changes("moveSpan", x -> x.moveSpan(0, 2, 50, 60), false);
        changes("rename", x -> rename(x, 0, 0, "z"), false);
        changes("split", x -> x.split(0, 0, 5), false);
        changes("join", x -> x.join(0, 0), false);
        changes("read", x -> read(x, "0:50-60=z;0:70-80=y"), false);
        says("also those by which nothing changes");
        changes("select", x -> x.select(0), true);
        changes("setSetting of the window", x -> x.setSetting(0, 50), true);
        changes("setSetting of the gap", x -> x.setSetting(1, 20), true);
        changes("moveSpan", x -> x.moveSpan(0, 0, 0, 10), true);
        changes("rename", x -> rename(x, 0, 0, "a"), true);
        says("of addTier, select, setSetting, addSpan, removeSpan, moveSpan, rename, split, join and read");
        Counted x = changed();
        Call[] others = {() -> x.append('a'), x::snapshot, () -> x.tier(0, 0), () -> x.book(0), () -> x.span(0, 0, 0),
            () -> x.letter(0, 0, 0), () -> x.spanAt(0, 0), () -> x.aligned(0, 0, 0), () -> x.alignment(0, 0, true),
            () -> search(x, "=*"), () -> search(x, "0=*"), () -> x.match(0, 0), () -> x.merge(0, 0),
            () -> x.merged(0, 0, 0), () -> x.frames(0, 0), () -> x.agreement(0), () -> x.kappa(0),
            () -> x.isConsistent() ? 1 : 0, () -> x.errorPosition(), () -> x.addTier(0, 4, 0), () -> x.select(2),
            () -> x.setSetting(0, 201), () -> add(x, 0, 0, 1, "a"), () -> x.addSpan(0, 50, 51), () -> x.removeSpan(0, 3),
            () -> x.moveSpan(0, 0, 0, 0), () -> x.rename(0, 0), () -> x.split(0, 0, 0), () -> x.join(0, 2), x::read,
            () -> read(x, "0:50-60=a;0:0-1=b"), () -> x.refusal(true), x::refusedItem};
        for (int i = 0; i < others.length; i++) {
            try {
                others[i].go();
            } catch (RuntimeException e) {
                // What it throws is told by other tests.
            }
            is("changes behind the call " + i, x.book(6), 3);
        }
    }

    private static void testUndoable() {
        says("since the last call of clear, or since the object was created");
        Counted x = new Counted();
        is("of a new object", x.book(6), 0);
        leaves(x, "undo", STATE, x::undo);
        x.select(1);
        x.select(0);
        x.clear();
        is("behind clear", x.book(6), 0);
        leaves(x, "undo behind clear", STATE, x::undo);
        x.select(1);
        is("one since then", x.book(6), 1);
        says("Whenever a change is made, it can be undone");
        for (int changes = 1; changes < 30; changes++) {
            Counted y = windows(changes);
            is("undo", y.undo(), Math.min(8, changes) - 1);
            is("window", y.book(2), changes == 1 ? 50 : changes - 1);
        }
        says("of those that could be undone before it, only the latest 7 still can, so that there are at most 8");
        for (int changes = 7; changes < 30; changes++) {
            Counted y = windows(changes);
            int most = Math.min(8, changes);
            is("changes", y.book(6), most);
            for (int i = 1; i <= most; i++) {
                is("undo", y.undo(), most - i);
                is("window", y.book(2), changes == i ? 50 : changes - i);
            }
            leaves(y, "one undo more", STATE, y::undo);
        }
        for (int undone = 1; undone <= 8; undone++) {
            Counted y = windows(20);
            for (int i = 0; i < undone; i++) {
                y.undo();
            }
            y.setSetting(0, 99);
            is("a change behind " + undone + " undone ones", y.book(6), 9 - undone);
            is("undo", y.undo(), 8 - undone);
            is("window", y.book(2), 20 - undone);
        }
    }

    /** The window set to 1, 2 and so on. */
    private static Counted windows(int changes) {
        Counted x = new Counted();
        for (int i = 1; i <= changes; i++) {
            x.setSetting(0, i);
        }
        return x;
    }

    public static void main(String[] args) throws IOException {
        section("Text");
        testBuffer();
        testTexts();
        testPatternTexts();
        testTokens();
        testErrorPositions();
        section("Changes");
        testChanges();
        testUndoable();
        endQuotes();
    }
}
