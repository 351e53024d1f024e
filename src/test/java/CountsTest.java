import java.io.IOException;

/** Each sentence of the document's description from the alignment to the agreement, with calls that find it broken. */
public final class CountsTest extends Sentences {
    /** Two tiers of words without a rule, with these spans. */
    private static Counted rows(String text) {
        return with(book(WORDS, WORDS), text.split("/"));
    }

    private static void aligns(Counted x, int pairs, int distances, int... given) {
        is("pairs", x.alignment(0, 1, true), pairs);
        is("distances", x.alignment(0, 1, false), distances);
        for (int i = 0; i < given.length; i++) {
            is("given to " + i, x.aligned(0, 1, i), given[i]);
        }
    }

    private static void testDistance() {
        says("The distance of two spans is the amount of the difference of their first frames plus that of their ends");
        int[][] others = {{100, 200, 0}, {93, 200, 7}, {107, 200, 7}, {100, 190, 10}, {100, 210, 10}, {93, 210, 17},
            {107, 190, 17}, {107, 210, 17}, {93, 190, 17}};
        for (int[] o : others) {
            Counted x = rows("0:100-200=a;1:" + o[0] + "-" + o[1] + "=b");
            aligns(x, 1, o[2], 0);
            is("and back", x.alignment(1, 0, false), o[2]);
        }
        says("such that the distance of each pair is at most the window");
        int[][] cases = {{0, 100, 1}, {0, 101, 0}, {1, 101, 1}, {50, 150, 1}, {50, 151, 0}, {200, 300, 1}, {200, 301, 0}};
        for (int[] c : cases) {
            Counted x = rows("0:0-100=a;1:0-" + c[1] + "=b");
            x.setSetting(0, c[0]);
            aligns(x, c[2], c[2] == 1 ? c[1] - 100 : 0, c[2] - 1);
        }
        aligns(rows("0:0-100=a;1:25-125=b"), 1, 50, 0);
        aligns(rows("0:0-100=a;1:25-126=b"), 0, 0, -1);
        says("which is from 0 to 200, at first 50");
        Counted x = signs();
        leaves(x, "a window of -1", ARGUMENT, () -> x.setSetting(0, -1));
        leaves(x, "a window of 201", ARGUMENT, () -> x.setSetting(0, 201));
        is("at first", x.setSetting(0, 0), 50);
        is("0", x.setSetting(0, 200), 0);
        is("200", x.book(2), 200);
    }

    private static void testAlignment() {
        says("gives each span of the first tier a span of the other one, or none");
        aligns(rows("0:0-10=a;0:100-110=b;0:200-210=c;1:1-10=x;1:201-210=y"), 2, 2, 0, -1, 1);
        says("the spans of the other tier that are given to later spans come later");
        aligns(rows("0:10-20=a;0:20-30=b;1:15-25=x"), 1, 10, 0, -1);
        Counted x = rows("0:0-100=a;0:100-101=b;1:90-91=x;1:91-100=y");
        x.setSetting(0, 95);
        is("the first one is near the second one", x.aligned(1, 0, 1), 1);
        aligns(x, 1, 10, -1, 1);
        says("The alignment is the one with the most pairs");
        aligns(rows("0:100-110=a;0:110-120=b;1:80-90=x;1:104-114=y"), 2, 52, 0, 1);
        aligns(rows("0:80-90=a;0:104-114=b;1:100-110=x;1:110-120=y"), 2, 52, 0, 1);
        says("of several, the one with the least sum of the distances");
        aligns(rows("0:100-110=a;1:90-100=x;1:105-115=y"), 1, 10, 1);
        aligns(rows("0:100-110=a;1:95-105=x;1:110-120=y"), 1, 10, 0);
        aligns(rows("0:90-100=a;0:105-115=b;1:100-110=x"), 1, 10, -1, 0);
        aligns(rows("0:0-10=a;0:20-30=b;1:5-15=x;1:15-24=y;1:24-34=z"), 2, 18, 0, 2);
        says("the one in which the first span that is given something else is given the span with the lower number");
        aligns(rows("0:10-30=a;1:10-20=x;1:20-30=y"), 1, 10, 0);
        aligns(rows("0:10-30=a;0:40-60=b;1:10-20=x;1:20-30=y;1:40-50=v;1:50-60=w"), 2, 20, 0, 2);
        aligns(rows("0:0-10=a;0:40-60=b;1:0-10=x;1:40-50=v;1:50-60=w"), 2, 10, 0, 1);
        says("where none counts as greater than any number");
        aligns(rows("0:10-20=a;0:20-30=b;1:10-30=x"), 1, 10, 0, -1);
        aligns(rows("0:0-9=a;0:10-20=b;0:20-30=c;1:0-9=x;1:10-30=y"), 2, 10, 0, 1, -1);
    }

    private static void testPatterns() {
        says("A pattern consists of 1 to 4 items");
        Counted x = with(signs(), "0:0-10=a");
        String[] patterns = {"0=*", "0=*&0=*", "0=*&0=*&0=*", "0=*&0=*&0=*&0=*"};
        for (int i = 0; i < 4; i++) {
            is("matches of " + patterns[i], search(x, patterns[i]), 1);
            is("items", x.book(7), i + 1);
            is("last item", x.match(0, i), 0);
        }
        malformed(x, "none", 0, x::search);
        malformed(x, "five", 15, () -> search(x, "0=*&0=*&0=*&0=*&0=*"));
        is("still four", x.book(7), 4);
        says("An item has a tier and a label, or fits any label");
        Counted y = with(book(SIGNS, WORDS), "0:0-10=a;0:10-20=b;1:20-30=a;1:40-50=b;1:50-60=c");
        is("a label", search(y, "1=a"), 1);
        is("its span", y.match(0, 0), 0);
        is("any label", search(y, "1=*"), 3);
        is("of the other tier", search(y, "0=*"), 2);
        says("fits an item with a label if its label is the same, or, for holds, if it is b");
        String spans = "0:0-1=l;0:1-2=r;0:2-3=b;0:3-4=l";
        String[][] due = {{"l", "0 2 3", "0 3"}, {"r", "1 2", "1"}, {"b", "2", "2"}, {"*", "0 1 2 3", "0 1 2 3"}};
        for (String[] d : due) {
            Counted holds = with(book(HOLDS), spans);
            same("holds for " + d[0], matches(holds, search(holds, "0=" + d[0])), d[1]);
            for (int kind : new int[] {SIGNS, WORDS}) {
                Counted names = with(book(kind), spans);
                same("names for " + d[0], matches(names, search(names, "0=" + d[0])), d[2]);
            }
        }
        Counted z = with(signs(), "0:0-1=lb;0:1-2=bl");
        is("a part of a label", search(z, "0=l"), 0);
    }

    private static void testLinks() {
        says("its first frame is not before the end of the former one");
        links("0:10-20=a;1:20-21=b", ",", 20, 1);
        links("0:10-20=a;1:19-21=b", ",", 20, 0);
        links("0:10-20=a;1:0-10=b", ",", 20, 0);
        links("0:10-20=a;1:10-20=b", ",", 20, 0);
        says("and at most the gap behind it, which is from 0 to 200, at first 20");
        int[][] cases = {{0, 20, 1}, {0, 21, 0}, {1, 21, 1}, {1, 22, 0}, {20, 40, 1}, {20, 41, 0}, {200, 220, 1},
            {200, 221, 0}};
        for (int[] c : cases) {
            links("0:10-20=a;1:" + c[1] + "-900=b", ",", c[0], c[2]);
        }
        Counted x = signs();
        leaves(x, "a gap of -1", ARGUMENT, () -> x.setSetting(1, -1));
        leaves(x, "a gap of 201", ARGUMENT, () -> x.setSetting(1, 201));
        is("at first", x.setSetting(1, 0), 20);
        is("0", x.setSetting(1, 200), 0);
        is("200", x.book(3), 200);
        says("both have a frame in common, or are the same span");
        links("0:10-20=a;1:19-30=b", "&", 0, 1);
        links("0:10-20=a;1:20-30=b", "&", 200, 0);
        links("0:10-20=a;1:0-11=b", "&", 0, 1);
        links("0:10-20=a;1:0-10=b", "&", 200, 0);
        links("0:10-20=a;1:14-15=b", "&", 0, 1);
        links("0:14-15=a;1:10-20=b", "&", 0, 1);
        links("0:10-20=a;1:10-20=b", "&", 0, 1);
        Counted y = with(signs(), "0:0-10=a;0:10-20=b");
        same("the same span", matches(y, search(y, "0=*&0=*")), "0-0 1-1");
        says("each span but the first one is linked with the one before it");
        Counted z = with(book(WORDS, WORDS, WORDS), "0:0-10=a;1:10-20=b;2:15-25=c;2:30-31=d");
        same("one after the other", matches(z, search(z, "0=*,1=*&2=*")), "0-0-0");
        same("not with the first one", matches(z, search(z, "0=*&1=*,2=*")), "");
        same("nor with the last but one", matches(z, search(z, "0=*,1=*,2=*")), "0-0-1");
        same("four", matches(z, search(z, "0=*,1=*&2=*,2=*")), "0-0-0-1");
    }

    private static void testOrderOfMatches() {
        says("ordered by the spans for the first item, for the same one by those for the second item, and so on");
        Counted x = with(signs(), "0:0-5=a;0:5-10=b;0:10-15=c;0:15-20=d");
        same("pairs", matches(x, search(x, "0=*,0=*")), "0-1 0-2 0-3 1-2 1-3 2-3");
        same("threes", matches(x, search(x, "0=*,0=*,0=*")), "0-1-2 0-1-3 0-2-3 1-2-3");
        Counted y = with(book(WORDS, WORDS), "0:0-10=a;0:10-20=b;1:0-5=c;1:5-15=d;1:15-25=e");
        same("of two tiers", matches(y, search(y, "0=*&1=*")), "0-0 0-1 1-1 1-2");
        same("and back", matches(y, search(y, "1=*&0=*")), "0-0 1-0 1-1 2-1");
        same("there and back", matches(y, search(y, "0=*&1=*&0=*")), "0-0-0 0-1-0 0-1-1 1-1-0 1-1-1 1-2-1");
    }

    private static void testMerge() {
        says("taken in ascending order of their first frames");
        merges("0:5-15=b", "0:0-10=a", "0-10/2 10-15/1", 1, 0);
        merges("0:0-10=a", "0:5-15=b", "0-10/1 10-15/2", 1, 0);
        merges("0:20-30=a;0:40-50=a", "0:0-10=b;0:30-40=b;0:60-70=b", "0-10/2 20-30/1 30-40/2 40-50/1 60-70/2", 0, 0);
        says("for the same one in ascending order of their ends");
        merges("0:0-10=a", "0:0-9=b", "0-9/2 9-10/1", 1, 0);
        merges("0:0-9=a", "0:0-10=b", "0-9/1 9-10/2", 1, 0);
        says("and for the same one those of the annotator 0 first");
        merges("0:0-10=aa", "0:0-10=b", "0-10/1", 1, 1);
        is("its label", both("0:0-10=aa", "0:0-10=b").merged(0, 0, 3), 2);
        says("Each of them is put behind the result, at first empty");
        merges("", "", "", 0, 0);
        merges("0:0-1=a", "", "0-1/1", 0, 0);
        says("the end of that one becomes the greater one of both ends, and it has this annotator as a source, too");
        merges("0:0-10=a", "0:9-15=a", "0-15/3", 0, 0);
        merges("0:0-20=a", "0:5-15=a", "0-20/3", 0, 0);
        merges("0:0-20=a", "0:5-20=a", "0-20/3", 0, 0);
        merges("0:5-15=a", "0:0-10=a", "0-15/3", 0, 0);
        merges("0:0-10=a;0:12-20=a", "0:8-14=a", "0-20/3", 0, 0);
        says("If its first frame is before the end of the last span of the result, and the labels are the same");
        merges("0:0-10=a;0:10-20=b", "0:15-18=a;0:19-30=b", "0-10/1 10-30/3", 1, 1);
        merges("0:0-10=ab", "0:9-15=a", "0-10/1 10-15/2", 1, 0);
    }

    private static void testConflicts() {
        says("If the first frame is before that end, and the labels are not the same, this is a conflict");
        merges("0:0-10=a", "0:9-15=b", "0-10/1 10-15/2", 1, 0);
        merges("0:0-10=a", "0:10-15=b", "0-10/1 10-15/2", 0, 0);
        merges("0:0-10=a;0:12-20=a", "0:8-14=b", "0-10/1 10-14/2 14-20/1", 2, 0);
        says("then it begins at that end, and if there is nothing left, it is dropped");
        merges("0:0-10=a", "0:5-11=b", "0-10/1 10-11/2", 1, 0);
        merges("0:0-10=a", "0:5-10=b", "0-10/1", 1, 1);
        merges("0:0-10=a", "0:5-9=b", "0-10/1", 1, 1);
        merges("0:0-20=a", "0:1-5=b;0:6-10=c;0:12-25=d", "0-20/1 20-25/2", 3, 2);
        says("In the other cases it is put there as it is");
        merges("0:0-10=a", "0:10-20=a", "0-10/1 10-20/2", 0, 0);
        merges("0:0-10=a", "0:11-20=b", "0-10/1 11-20/2", 0, 0);
        says("A source of a span of the result is an annotator of whom a span was put there");
        Counted x = both("0:0-10=a;0:20-30=a;0:50-60=a", "0:5-15=a;0:40-45=b;0:51-55=b");
        same("sources", merge(x, 0), "0-15/3 20-30/1 40-45/2 50-60/1");
        is("with both", x.merge(0, 3), 1);
        x.select(0);
        same("whoever is present", merge(x, 0), "0-15/3 20-30/1 40-45/2 50-60/1");
    }

    private static void testAgreement() {
        says("the frames 0 to 999 are compared");
        Counted x = both("0:0-1000=a", "0:0-1=a;0:999-1000=a");
        is("of 0", x.frames(0, 0), 1000);
        is("the first and the last one", x.frames(0, 2), 2);
        is("all", x.frames(0, 4), 1000);
        says("each annotator gives a frame the label of their span with this frame, or no label");
        Counted y = both("0:0-10=a;0:20-30=b", "0:9-21=a;0:29-30=b");
        int[] due = {20, 13, 2, 3, 30};
        for (int what = 0; what < 5; what++) {
            is("frames " + what, y.frames(0, what), due[what]);
        }
    }

    public static void main(String[] args) throws IOException {
        section("Alignment");
        testDistance();
        testAlignment();
        section("Patterns");
        testPatterns();
        testLinks();
        testOrderOfMatches();
        section("Merge");
        testMerge();
        testConflicts();
        section("Agreement");
        testAgreement();
        endQuotes();
    }
}
