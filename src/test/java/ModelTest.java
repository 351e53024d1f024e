import java.util.ArrayList;
import java.util.Arrays;
import java.util.Comparator;
import java.util.HashSet;
import java.util.List;
import java.util.NoSuchElementException;
import java.util.Set;
import java.util.TreeSet;
import java.util.regex.Matcher;
import java.util.regex.Pattern;

/**
 * Runs of 512 calls, the same ones each time, compared with a plain model: it counts frame by frame, tries all matches
 * and all alignments of short rows, copies its whole state for each change, and reads texts by regular expressions.
 */
public final class ModelTest {
    private static final int RUNS = 6000;
    /** More than a change with its text and the questions behind it need. */
    private static final int ROUND = 90;

    private static final class Span {
        int first;
        int end;
        String label;

        Span(int first, int end, String label) {
            this.first = first;
            this.end = end;
            this.label = label;
        }

        boolean has(int frame) {
            return first <= frame && frame < end;
        }

        boolean meets(Span other) {
            for (int frame = first; frame < end; frame++) {
                if (other.has(frame)) {
                    return true;
                }
            }
            return false;
        }
    }

    private static final class Tier {
        int kind;
        int rule;
        int parent;
        List<List<Span>> spans = List.of(new ArrayList<>(), new ArrayList<>());
    }

    private static final class State {
        List<Tier> tiers = new ArrayList<>();
        int annotator = 0;
        int[] settings = {50, 20};

        State copy() {
            State s = new State();
            s.annotator = annotator;
            s.settings = settings.clone();
            for (Tier t : tiers) {
                Tier c = new Tier();
                c.kind = t.kind;
                c.rule = t.rule;
                c.parent = t.parent;
                for (int a = 0; a < 2; a++) {
                    for (Span span : t.spans.get(a)) {
                        c.spans.get(a).add(new Span(span.first, span.end, span.label));
                    }
                }
                s.tiers.add(c);
            }
            return s;
        }

        List<Span> spans(int tier) {
            return tiers.get(tier).spans.get(annotator);
        }

        Span host(int tier, Span span) {
            Tier t = tiers.get(tier);
            if (t.rule == 0) {
                return null;
            }
            for (Span h : spans(t.parent)) {
                boolean isHost = t.rule == 1 ? h.first <= span.first && span.end <= h.end
                    : t.rule == 2 ? h.first == span.first && h.end == span.end : h.first == span.first;
                if (isHost) {
                    return h;
                }
            }
            return null;
        }

        boolean isLost(int tier, Span span) {
            return tiers.get(tier).rule != 0 && host(tier, span) == null;
        }

        void sort(int tier) {
            spans(tier).sort(Comparator.comparingInt((Span s) -> s.first));
        }
    }

    /** The calls that the model refuses, with the exception that is due. */
    private static final class Fail extends RuntimeException {
        final Class<?> due;

        Fail(Class<?> due) {
            super(null, null, false, false);
            this.due = due;
        }
    }

    private static Fail index() {
        return new Fail(IndexOutOfBoundsException.class);
    }

    private static Fail argument() {
        return new Fail(IllegalArgumentException.class);
    }

    private static Fail state() {
        return new Fail(IllegalStateException.class);
    }

    private static Fail none() {
        return new Fail(NoSuchElementException.class);
    }

    private static Fail refused() {
        return new Fail(UnsupportedOperationException.class);
    }

    private static final String[] LABELS = {"[a-z]{1,8}", "[lrb]", "[0-9]", "[a-z]{1,8}"};

    private static final class Model {
        final int[] refusals = new int[6];
        State s = new State();
        State saved = null;
        List<State> past = new ArrayList<>();
        String buffer = "";
        int error = -1;
        int item = -1;
        int reason = 0;
        int number = 0;
        List<String> parts = new ArrayList<>();
        List<Integer> kinds = new ArrayList<>();
        String links = "";

        void change(State next) {
            past.add(s);
            if (past.size() > 8) {
                past.remove(0);
            }
            s = next;
        }

        void needTier(int tier) {
            if (tier < 0 || tier >= s.tiers.size()) {
                throw index();
            }
        }

        void needSpan(int tier, int span) {
            needTier(tier);
            if (span < 0 || span >= s.spans(tier).size()) {
                throw index();
            }
        }

        void needRange(int what, int most) {
            if (what < 0 || what > most) {
                throw argument();
            }
        }

        int refuse(int reason, int number) {
            refusals[reason]++;
            this.reason = reason;
            this.number = number;
            throw refused();
        }

        /** Takes the buffer if it has the form, otherwise tells the first character that no such text can have there. */
        String take(String form) {
            String text = buffer;
            buffer = "";
            if (text.matches(form)) {
                return text;
            }
            Pattern p = Pattern.compile(form);
            for (int i = 0; i < text.length(); i++) {
                Matcher m = p.matcher(text.substring(0, i + 1));
                if (!m.matches() && !m.hitEnd()) {
                    error = i;
                    throw argument();
                }
            }
            error = text.length();
            throw argument();
        }

        int clear() {
            int tiers = s.tiers.size();
            s = new State();
            past.clear();
            parts = new ArrayList<>();
            return tiers;
        }

        int addTier(int kind, int rule, int parent) {
            needRange(kind, 3);
            needRange(rule, 3);
            if (rule != 0) {
                needTier(parent);
            }
            if (s.tiers.size() == 6) {
                throw state();
            }
            State next = s.copy();
            Tier t = new Tier();
            t.kind = kind;
            t.rule = rule;
            t.parent = rule == 0 ? -1 : parent;
            next.tiers.add(t);
            change(next);
            return s.tiers.size() - 1;
        }

        int select(int annotator) {
            needRange(annotator, 1);
            int former = s.annotator;
            State next = s.copy();
            next.annotator = annotator;
            change(next);
            return former;
        }

        int setSetting(int what, int value) {
            if (what != 0 && what != 1) {
                throw index();
            }
            needRange(value, 200);
            int former = s.settings[what];
            State next = s.copy();
            next.settings[what] = value;
            change(next);
            return former;
        }

        int tier(int tier, int what) {
            needTier(tier);
            needRange(what, 7);
            Tier t = s.tiers.get(tier);
            int frames = 0;
            Set<String> labels = new HashSet<>();
            for (Span span : s.spans(tier)) {
                labels.add(span.label);
                frames += span.end - span.first;
            }
            int mask = 0;
            for (int i = 0; i < s.tiers.size(); i++) {
                mask += s.tiers.get(i).parent == tier ? 1 << i : 0;
            }
            return new int[] {t.kind, t.rule, t.parent, s.spans(tier).size(), frames,
                t.spans.get(1 - s.annotator).size(), mask, labels.size()}[what];
        }

        int book(int what) {
            needRange(what, 7);
            int all = 0;
            for (Tier t : s.tiers) {
                all += t.spans.get(0).size() + t.spans.get(1).size();
            }
            return new int[] {s.tiers.size(), s.annotator, s.settings[0], s.settings[1], all, buffer.length(),
                past.size(), parts.size()}[what];
        }

        int append(int packed) {
            StringBuilder more = new StringBuilder();
            for (int i = 3; i >= 0; i--) {
                int sign = packed >> 8 * i & 0xff;
                if (sign != 0) {
                    more.append((char) sign);
                }
            }
            if (!more.toString().matches("[ -~]*")) {
                throw argument();
            }
            if (buffer.length() + more.length() > 100) {
                throw state();
            }
            buffer += more;
            return buffer.length();
        }

        /** The reasons 1 to 3 for a span that is put into a state in which it is not yet. */
        void check(State next, int tier, Span span, List<Span> numbered) {
            if (span.first < 0 || span.first > 999 || span.end < 1 || span.end > 1000 || span.end <= span.first) {
                refuse(1, 0);
            }
            for (Span other : numbered) {
                if (next.spans(tier).contains(other) && other.meets(span)) {
                    refuse(2, numbered.indexOf(other));
                }
            }
            if (next.isLost(tier, span)) {
                refuse(3, 0);
            }
        }

        /** The reason 4 for a state behind a change. */
        void checkGuests(State next, int tier) {
            for (int i = 0; i < next.tiers.size(); i++) {
                for (Span span : next.spans(i)) {
                    if (next.tiers.get(i).parent == tier && next.isLost(i, span)) {
                        refuse(4, i);
                    }
                }
            }
        }

        int put(State next, int tier, int first, int end, String label) {
            Span span = new Span(first, end, label);
            check(next, tier, span, new ArrayList<>(next.spans(tier)));
            if (next.spans(tier).size() == 30) {
                refuse(5, 0);
            }
            next.spans(tier).add(span);
            next.sort(tier);
            return next.spans(tier).indexOf(span);
        }

        int addSpan(int tier, int first, int end) {
            needTier(tier);
            String label = take(LABELS[s.tiers.get(tier).kind]);
            State next = s.copy();
            int number = put(next, tier, first, end, label);
            change(next);
            return number;
        }

        int removeSpan(int tier, int span) {
            needSpan(tier, span);
            State next = s.copy();
            next.spans(tier).remove(span);
            int removed = 1;
            boolean isGoingOn = true;
            while (isGoingOn) {
                isGoingOn = false;
                for (int i = next.tiers.size() - 1; i >= 0; i--) {
                    int tierNow = i;
                    int before = next.spans(i).size();
                    next.spans(i).removeIf(x -> next.isLost(tierNow, x));
                    removed += before - next.spans(i).size();
                    isGoingOn |= before != next.spans(i).size();
                }
            }
            change(next);
            return removed;
        }

        int moveSpan(int tier, int span, int first, int end) {
            needSpan(tier, span);
            State next = s.copy();
            List<Span> numbered = new ArrayList<>(next.spans(tier));
            Span moved = numbered.get(span);
            next.spans(tier).remove(moved);
            check(next, tier, new Span(first, end, moved.label), numbered);
            moved.first = first;
            moved.end = end;
            next.spans(tier).add(moved);
            next.sort(tier);
            checkGuests(next, tier);
            change(next);
            return s.spans(tier).indexOf(moved);
        }

        int rename(int tier, int span) {
            needSpan(tier, span);
            String label = take(LABELS[s.tiers.get(tier).kind]);
            State next = s.copy();
            Span renamed = next.spans(tier).get(span);
            int changed = renamed.label.equals(label) ? 0 : 1;
            renamed.label = label;
            change(next);
            return changed;
        }

        int split(int tier, int span, int at) {
            needSpan(tier, span);
            State next = s.copy();
            Span former = next.spans(tier).remove(span);
            if (!(at > former.first && at < former.end)) {
                refuse(1, 0);
            }
            Span one = new Span(former.first, at, former.label);
            Span two = new Span(at, former.end, former.label);
            if (next.isLost(tier, one) || next.isLost(tier, two)) {
                refuse(3, 0);
            }
            next.spans(tier).addAll(List.of(one, two));
            next.sort(tier);
            checkGuests(next, tier);
            if (next.spans(tier).size() == 31) {
                refuse(5, 0);
            }
            change(next);
            return s.spans(tier).size();
        }

        int join(int tier, int span) {
            needSpan(tier, span);
            State next = s.copy();
            if (span == next.spans(tier).size() - 1) {
                refuse(1, 0);
            }
            Span joined = next.spans(tier).get(span);
            joined.end = next.spans(tier).remove(span + 1).end;
            if (next.isLost(tier, joined)) {
                refuse(3, 0);
            }
            checkGuests(next, tier);
            change(next);
            return s.spans(tier).size();
        }

        int span(int tier, int span, int what) {
            needSpan(tier, span);
            needRange(what, 4);
            Span x = s.spans(tier).get(span);
            Span host = s.host(tier, x);
            int guests = 0;
            for (int i = 0; i < s.tiers.size(); i++) {
                for (Span guest : s.spans(i)) {
                    guests += s.host(i, guest) == x ? 1 : 0;
                }
            }
            return new int[] {x.first, x.end, x.label.length(),
                host == null ? -1 : s.spans(s.tiers.get(tier).parent).indexOf(host), guests}[what];
        }

        int letter(int tier, int span, int index) {
            needSpan(tier, span);
            String label = s.spans(tier).get(span).label;
            if (index < 0 || index >= label.length()) {
                throw none();
            }
            return label.charAt(index);
        }

        int spanAt(int tier, int frame) {
            needTier(tier);
            for (Span span : s.spans(tier)) {
                if (span.has(frame)) {
                    return s.spans(tier).indexOf(span);
                }
            }
            return -1;
        }

        int refusal(boolean isReason) {
            if (reason == 0) {
                throw none();
            }
            return isReason ? reason : number;
        }

        int[] best;
        int bestPairs;
        int bestSum;

        /** Tries all alignments, those with lower numbers first, so that only a better one takes the place. */
        void align(List<Span> from, List<Span> to, int i, int free, int[] given, int pairs, int sum) {
            if (pairs + from.size() - i < bestPairs) {
                return;
            }
            if (i == from.size()) {
                if (pairs > bestPairs || pairs == bestPairs && sum < bestSum) {
                    bestPairs = pairs;
                    bestSum = sum;
                    best = given.clone();
                }
                return;
            }
            for (int j = free; j < to.size(); j++) {
                int distance = Math.abs(from.get(i).first - to.get(j).first) + Math.abs(from.get(i).end - to.get(j).end);
                if (distance <= s.settings[0]) {
                    given[i] = j;
                    align(from, to, i + 1, j + 1, given, pairs + 1, sum + distance);
                }
            }
            given[i] = -1;
            align(from, to, i + 1, free, given, pairs, sum);
        }

        /** All alignments of long rows are too many to try. */
        boolean isShort(int tier) {
            return tier < 0 || tier >= s.tiers.size() || s.spans(tier).size() <= 9;
        }

        void align(int tier, int other) {
            best = null;
            bestPairs = -1;
            bestSum = 0;
            align(s.spans(tier), s.spans(other), 0, 0, new int[s.spans(tier).size()], 0, 0);
        }

        int aligned(int tier, int other, int span) {
            needTier(other);
            needSpan(tier, span);
            align(tier, other);
            return best[span];
        }

        int alignment(int tier, int other, boolean isPairs) {
            needTier(tier);
            needTier(other);
            align(tier, other);
            return isPairs ? bestPairs : bestSum;
        }

        String forms(String joint, boolean isPattern) {
            StringBuilder form = new StringBuilder();
            for (int i = 0; i < s.tiers.size(); i++) {
                String label = LABELS[s.tiers.get(i).kind];
                form.append(i == 0 ? "" : "|").append(i).append(joint);
                form.append(isPattern ? "(" + label + "|\\*)" : label);
            }
            return s.tiers.isEmpty() ? "[^\\x00-\\xff]" : "(" + form + ")";
        }

        int search() {
            String part = forms("=", true);
            String text = take(part + "([,&]" + part + "){0,3}");
            parts = new ArrayList<>(Arrays.asList(text.split("[,&]")));
            kinds = new ArrayList<>();
            for (String p : parts) {
                kinds.add(s.tiers.get(p.charAt(0) - '0').kind);
            }
            links = text.replaceAll("[^,&]", "");
            return matches().size();
        }

        boolean fits(int part, int tier, Span span) {
            String label = parts.get(part).substring(2);
            return label.equals("*") || label.equals(span.label)
                || s.tiers.get(tier).kind == 1 && span.label.equals("b");
        }

        boolean isLinked(char link, Span one, Span two) {
            return link == '&' ? one.meets(two) : two.first >= one.end && two.first <= one.end + s.settings[1];
        }

        List<int[]> matches() {
            List<int[]> found = new ArrayList<>();
            find(found, new int[parts.size()], 0, null);
            return found;
        }

        void find(List<int[]> found, int[] chosen, int part, Span last) {
            if (part == parts.size()) {
                found.add(chosen.clone());
                return;
            }
            int tier = parts.get(part).charAt(0) - '0';
            if (tier >= s.tiers.size() || s.tiers.get(tier).kind != kinds.get(part)) {
                return;
            }
            for (int i = 0; i < s.spans(tier).size() && found.size() < 1000; i++) {
                Span span = s.spans(tier).get(i);
                if (fits(part, tier, span) && (part == 0 || isLinked(links.charAt(part - 1), last, span))) {
                    chosen[part] = i;
                    find(found, chosen, part + 1, span);
                }
            }
        }

        int match(int match, int item) {
            if (parts.isEmpty()) {
                throw state();
            }
            List<int[]> all = matches();
            if (match < 0 || match >= all.size() || item < 0 || item >= parts.size()) {
                throw none();
            }
            return all.get(match)[item];
        }

        List<int[]> merged;
        List<String> mergedLabels;
        int conflicts;
        int dropped;

        void mergeAll(int tier) {
            List<Object[]> all = new ArrayList<>();
            for (int a = 0; a < 2; a++) {
                for (Span span : s.tiers.get(tier).spans.get(a)) {
                    all.add(new Object[] {span.first * 10000 + span.end * 2 + a, span, 1 + a});
                }
            }
            all.sort(Comparator.comparingInt(x -> (Integer) x[0]));
            merged = new ArrayList<>();
            mergedLabels = new ArrayList<>();
            conflicts = 0;
            dropped = 0;
            for (Object[] x : all) {
                Span span = (Span) x[1];
                int[] last = merged.isEmpty() ? new int[] {-1, -1, 0} : merged.get(merged.size() - 1);
                String label = merged.isEmpty() ? "" : mergedLabels.get(merged.size() - 1);
                if (span.first >= last[1]) {
                    merged.add(new int[] {span.first, span.end, (Integer) x[2]});
                    mergedLabels.add(span.label);
                } else if (label.equals(span.label)) {
                    last[1] = Math.max(last[1], span.end);
                    last[2] |= (Integer) x[2];
                } else {
                    conflicts++;
                    if (span.end > last[1]) {
                        merged.add(new int[] {last[1], span.end, (Integer) x[2]});
                        mergedLabels.add(span.label);
                    } else {
                        dropped++;
                    }
                }
            }
        }

        int merge(int tier, int what) {
            needTier(tier);
            needRange(what, 4);
            mergeAll(tier);
            int shared = 0;
            int frames = 0;
            for (int[] x : merged) {
                shared += x[2] == 3 ? 1 : 0;
                frames += x[1] - x[0];
            }
            return new int[] {merged.size(), conflicts, dropped, shared, frames}[what];
        }

        int merged(int tier, int index, int what) {
            needTier(tier);
            mergeAll(tier);
            if (index < 0 || index >= merged.size()) {
                throw none();
            }
            needRange(what, 3);
            return what < 3 ? merged.get(index)[what] : mergedLabels.get(index).length();
        }

        String labelAt(int tier, int annotator, int frame) {
            for (Span span : s.tiers.get(tier).spans.get(annotator)) {
                if (span.has(frame)) {
                    return span.label;
                }
            }
            return "";
        }

        int frames(int tier, int what) {
            needTier(tier);
            needRange(what, 4);
            int[] counts = new int[5];
            for (int frame = 0; frame < 1000; frame++) {
                String zero = labelAt(tier, 0, frame);
                String one = labelAt(tier, 1, frame);
                counts[0] += zero.isEmpty() ? 0 : 1;
                counts[1] += one.isEmpty() ? 0 : 1;
                counts[2] += !zero.isEmpty() && zero.equals(one) ? 1 : 0;
                counts[3] += !zero.isEmpty() && !one.isEmpty() ? 1 : 0;
                counts[4] += !zero.isEmpty() || !one.isEmpty() ? 1 : 0;
            }
            return counts[what];
        }

        float agreement(int tier) {
            if (frames(tier, 4) == 0) {
                throw new Fail(ArithmeticException.class);
            }
            return (float) frames(tier, 2) / (float) frames(tier, 4);
        }

        double kappa(int tier) {
            needTier(tier);
            int same = 0;
            Set<String> labels = new TreeSet<>();
            List<List<String>> told = List.of(new ArrayList<>(), new ArrayList<>());
            for (int frame = 0; frame < 1000; frame++) {
                for (int a = 0; a < 2; a++) {
                    told.get(a).add(labelAt(tier, a, frame));
                }
                same += told.get(0).get(frame).equals(told.get(1).get(frame)) ? 1 : 0;
                labels.add(told.get(0).get(frame));
            }
            int products = 0;
            for (String label : labels) {
                int[] counts = new int[2];
                for (int a = 0; a < 2; a++) {
                    for (String x : told.get(a)) {
                        counts[a] += x.equals(label) ? 1 : 0;
                    }
                }
                products += counts[0] * counts[1];
            }
            if (products == 1000000) {
                throw new Fail(ArithmeticException.class);
            }
            double p = (double) same / 1000;
            double c = (double) products / 1000000;
            return (p - c) / (1 - c);
        }

        int read() {
            String number = "(0|[1-9][0-9]{0,3})";
            String one = forms(":" + number + "-" + number + "=", false);
            String text = take(one + "(;" + one + ")*");
            State next = s.copy();
            int i = 0;
            for (String x : text.split(";")) {
                String[] parts = x.split("[:=-]");
                try {
                    put(next, Integer.parseInt(parts[0]), Integer.parseInt(parts[1]), Integer.parseInt(parts[2]), parts[3]);
                } catch (Fail e) {
                    item = i;
                    throw e;
                }
                i++;
            }
            change(next);
            return i;
        }

        int errorPosition() {
            if (error < 0) {
                throw none();
            }
            return error;
        }

        int refusedItem() {
            if (item < 0) {
                throw none();
            }
            return item;
        }

        int undo() {
            if (past.isEmpty()) {
                throw state();
            }
            s = past.remove(past.size() - 1);
            return past.size();
        }

        int snapshot() {
            saved = s.copy();
            return s.tiers.size();
        }

        int restore() {
            if (saved == null) {
                throw state();
            }
            s = saved.copy();
            past.clear();
            return s.tiers.size();
        }
    }

    private interface Call {
        double go();
    }

    private final Counted x = new Counted();
    private final Model m = new Model();
    private final List<String> log = new ArrayList<>();
    private long seed;
    /** How far frames go: short ranges make spans meet. */
    private final int range;
    /** How many spans a tier has before they are taken away again. */
    private final int crowd;
    private boolean isWrong = false;

    private ModelTest(int run) {
        seed = run * 7919L + 17;
        range = new int[] {1000, 60, 25, 300, 12}[run % 5];
        crowd = new int[] {6, 9, 30, 4}[run / 5 % 4];
    }

    private int next(int bound) {
        seed = seed * 6364136223846793005L + 1442695040888963407L;
        return (int) ((seed >>> 33) % bound);
    }

    private static double outcome(Call call, Class<?>[] thrown) {
        try {
            return call.go();
        } catch (Fail e) {
            thrown[0] = e.due;
        } catch (RuntimeException e) {
            thrown[0] = e.getClass();
        }
        return 0;
    }

    private void both(String what, Call real, Call plain) {
        if (x.callsLeft() == 0) {
            return;
        }
        log.add(what);
        Class<?>[] got = new Class<?>[1];
        Class<?>[] due = new Class<?>[1];
        double answer = outcome(real, got);
        double want = outcome(plain, due);
        if (answer != want || got[0] != due[0]) {
            isWrong = true;
            System.out.println("after " + log);
            System.out.println(what + " answered " + answer + " " + got[0] + ", due is " + want + " " + due[0]);
        }
    }

    private int tierNumber() {
        int count = m.s.tiers.size();
        return next(40) == 0 ? next(9) - 1 : count == 0 ? 0 : next(count);
    }

    private int spanNumber(int tier) {
        int count = tier >= 0 && tier < m.s.tiers.size() ? m.s.spans(tier).size() : 0;
        return next(25) == 0 ? next(33) - 1 : count == 0 ? 0 : next(count);
    }

    private String label(int tier) {
        int kind = tier >= 0 && tier < m.s.tiers.size() ? m.s.tiers.get(tier).kind : next(4);
        if (next(30) == 0) {
            return new String[] {"", "A", "abcdefghi", "lr", "12", "a b", "ab1", "=", "~"}[next(9)];
        }
        if (kind == 1) {
            return "lrb".substring(next(3)).substring(0, 1);
        }
        if (kind == 2) {
            return "" + next(3) * 4;
        }
        return new String[] {"a", "b", "ab", "abcdefgh", "z"}[next(next(3) == 0 ? 5 : 2)];
    }

    private void put(String text) {
        for (int i = 0; i < text.length(); i += 4) {
            int packed = 0;
            for (int j = i; j < Math.min(i + 4, text.length()); j++) {
                packed = packed << 8 | text.charAt(j);
            }
            int p = packed;
            both("append(" + p + ")", () -> x.append(p), () -> m.append(p));
        }
    }

    /** Frames for a tier: often those of a host, so that they are not refused all the time. */
    private int[] frames(int tier) {
        if (next(30) == 0) {
            int[] odd = {-1, 0, 999, 1000, 1001, Integer.MAX_VALUE, Integer.MIN_VALUE};
            return new int[] {odd[next(7)], odd[next(7)]};
        }
        int first = next(range);
        int end = Math.min(1000, first + 1 + next(1 + next(Math.max(2, range / 4))));
        boolean isBound = tier >= 0 && tier < m.s.tiers.size() && m.s.tiers.get(tier).rule != 0;
        List<Span> hosts = isBound ? m.s.spans(m.s.tiers.get(tier).parent) : List.of();
        if (!hosts.isEmpty() && next(6) != 0) {
            Span host = hosts.get(next(hosts.size()));
            first = next(2) == 0 ? host.first : host.first + next(host.end - host.first);
            end = next(2) == 0 ? host.end : first + 1 + next(Math.max(1, host.end - first));
        }
        return new int[] {first, end};
    }

    private String broken(String text) {
        if (next(6) != 0 || text.isEmpty()) {
            return text;
        }
        int at = next(text.length());
        String sign = "" + ":;=-,&*0a9b ~".charAt(next(13));
        switch (next(3)) {
            case 0:
                return text.substring(0, at) + text.substring(at + 1);
            case 1:
                return text.substring(0, at) + sign + text.substring(at);
            default:
                return text.substring(0, at) + sign + text.substring(at + 1);
        }
    }

    private void putSpans() {
        StringBuilder text = new StringBuilder();
        int items = 1 + next(6);
        for (int i = 0; i < items; i++) {
            int tier = tierNumber();
            int[] f = frames(tier);
            String one = tier + ":" + f[0] + "-" + f[1] + "=" + label(tier);
            text.append(text.length() + one.length() > 98 ? "" : (i == 0 ? "" : ";") + one);
        }
        put(broken(text.toString()));
    }

    private void putPattern() {
        StringBuilder text = new StringBuilder();
        int parts = next(20) == 0 ? 5 : 1 + next(4);
        int tier = tierNumber();
        for (int i = 0; i < parts; i++) {
            tier = next(3) == 0 ? tierNumber() : tier;
            text.append(i == 0 ? "" : next(2) == 0 ? "," : "&").append(tier).append('=');
            text.append(next(2) == 0 ? "*" : label(tier));
        }
        put(broken(text.toString()));
    }

    private void changeOnce() {
        int tier = tierNumber();
        int span = spanNumber(tier);
        int[] f = frames(tier);
        boolean isCrowded = tier >= 0 && tier < m.s.tiers.size() && m.s.spans(tier).size() >= crowd && crowd < 30;
        switch (isCrowded ? 5 : next(20)) {
            case 0: case 1: case 2: case 3: case 4:
                put(label(tier));
                both("addSpan(" + tier + ", " + f[0] + ", " + f[1] + ")",
                    () -> x.addSpan(tier, f[0], f[1]), () -> m.addSpan(tier, f[0], f[1]));
                break;
            case 5:
                both("removeSpan(" + tier + ", " + span + ")", () -> x.removeSpan(tier, span), () -> m.removeSpan(tier, span));
                break;
            case 6: case 7: case 8:
                both("moveSpan(" + tier + ", " + span + ", " + f[0] + ", " + f[1] + ")",
                    () -> x.moveSpan(tier, span, f[0], f[1]), () -> m.moveSpan(tier, span, f[0], f[1]));
                break;
            case 9:
                put(label(tier));
                both("rename(" + tier + ", " + span + ")", () -> x.rename(tier, span), () -> m.rename(tier, span));
                break;
            case 10: case 11: case 12:
                int at = next(2) == 0 || m.s.tiers.size() <= tier || tier < 0 || m.s.spans(tier).size() <= span || span < 0
                    ? f[0] : m.s.spans(tier).get(span).first + 1;
                both("split(" + tier + ", " + span + ", " + at + ")", () -> x.split(tier, span, at), () -> m.split(tier, span, at));
                break;
            case 13: case 14:
                both("join(" + tier + ", " + span + ")", () -> x.join(tier, span), () -> m.join(tier, span));
                break;
            case 15: case 16: case 17:
                putSpans();
                both("read()", x::read, m::read);
                break;
            default:
                changeRarely();
        }
    }

    private void changeRarely() {
        int a = next(12) == 0 ? next(5) - 1 : next(2);
        int value = next(12) == 0 ? next(400) - 100 : next(201);
        int kind = next(20) == 0 ? next(7) - 1 : next(4);
        int rule = next(20) == 0 ? next(7) - 1 : next(4);
        int parent = tierNumber();
        switch (next(16)) {
            case 0: case 1: case 2:
                both("select(" + a + ")", () -> x.select(a), () -> m.select(a));
                break;
            case 3: case 4:
                both("setSetting(" + a + ", " + value + ")", () -> x.setSetting(a, value), () -> m.setSetting(a, value));
                break;
            case 5: case 6: case 7: case 8:
                both("addTier(" + kind + ", " + rule + ", " + parent + ")",
                    () -> x.addTier(kind, rule, parent), () -> m.addTier(kind, rule, parent));
                break;
            case 9: case 10: case 11:
                int times = next(4);
                for (int i = 0; i <= times; i++) {
                    both("undo()", x::undo, m::undo);
                }
                break;
            case 12:
                both("snapshot()", x::snapshot, m::snapshot);
                break;
            case 13:
                both("restore()", x::restore, m::restore);
                break;
            case 14:
                int packed = next(3) == 0 ? next(1 << 30) * 4 + next(4) : (32 + next(96)) << 8 * next(4);
                both("append(" + packed + ")", () -> x.append(packed), () -> m.append(packed));
                break;
            default:
                if (next(12) == 0) {
                    both("clear()", x::clear, m::clear);
                }
        }
    }

    /** One of a few questions, so that the calls of a run are enough for many changes. */
    private void some(String what, Call real, Call plain) {
        if (next(4) == 0) {
            both(what, real, plain);
        }
    }

    private void ask() {
        int tier = tierNumber();
        int other = tierNumber();
        int span = spanNumber(tier);
        int what = next(10) - 1;
        int few = next(7) - 1;
        int odd = next(8) == 0 ? next(1100) - 50 : next(6);
        int frame = next(range + 10) - 5;
        boolean is = next(2) == 0;
        some("tier(" + tier + ", " + what + ")", () -> x.tier(tier, what), () -> m.tier(tier, what));
        some("book(" + what + ")", () -> x.book(what), () -> m.book(what));
        some("span(" + tier + ", " + span + ", " + few + ")", () -> x.span(tier, span, few), () -> m.span(tier, span, few));
        some("letter(" + tier + ", " + span + ", " + few + ")", () -> x.letter(tier, span, few), () -> m.letter(tier, span, few));
        some("spanAt(" + tier + ", " + frame + ")", () -> x.spanAt(tier, frame), () -> m.spanAt(tier, frame));
        some("refusal(" + is + ")", () -> x.refusal(is), () -> m.refusal(is));
        some("errorPosition()", x::errorPosition, m::errorPosition);
        some("refusedItem()", x::refusedItem, m::refusedItem);
        if (m.isShort(tier) && m.isShort(other)) {
            some("aligned(" + tier + ", " + other + ", " + span + ")",
                () -> x.aligned(tier, other, span), () -> m.aligned(tier, other, span));
            some("alignment(" + tier + ", " + other + ", " + is + ")",
                () -> x.alignment(tier, other, is), () -> m.alignment(tier, other, is));
        }
        some("merge(" + tier + ", " + few + ")", () -> x.merge(tier, few), () -> m.merge(tier, few));
        some("merged(" + tier + ", " + odd + ", " + few + ")",
            () -> x.merged(tier, odd, few), () -> m.merged(tier, odd, few));
        some("match(" + odd + ", " + few + ")", () -> x.match(odd, few), () -> m.match(odd, few));
        some("frames(" + tier + ", " + few + ")", () -> x.frames(tier, few), () -> m.frames(tier, few));
        if (next(8) == 0) {
            both("agreement(" + tier + ")", () -> x.agreement(tier), () -> m.agreement(tier));
            both("kappa(" + tier + ")", () -> x.kappa(tier), () -> m.kappa(tier));
            both("isConsistent()", () -> x.isConsistent() ? 1 : 0, () -> 1);
        }
        if (next(6) == 0) {
            putPattern();
            both("search()", x::search, m::search);
            both("match(" + odd + ", 0)", () -> x.match(odd, 0), () -> m.match(odd, 0));
        }
    }

    private int costOfAll() {
        int cost = 8;
        for (int tier = 0; tier < m.s.tiers.size(); tier++) {
            cost += 1 + 5 * m.s.spans(tier).size();
        }
        return cost;
    }

    /** All spans of the present annotator, as a wrong state may be told late or never by single questions. */
    private void askAll() {
        for (int what = 0; what < 8; what++) {
            int w = what;
            both("book(" + w + ")", () -> x.book(w), () -> m.book(w));
        }
        for (int i = 0; i < m.s.tiers.size(); i++) {
            int tier = i;
            both("tier(" + tier + ", 3)", () -> x.tier(tier, 3), () -> m.tier(tier, 3));
            for (int j = 0; j < m.s.spans(i).size(); j++) {
                for (int what = 0; what < 5; what++) {
                    int span = j;
                    int w = what;
                    both("span(" + tier + ", " + span + ", " + w + ")", () -> x.span(tier, span, w), () -> m.span(tier, span, w));
                }
            }
        }
    }

    /** Fills the first tier, so that the limit of its spans is met. */
    private void fill() {
        int step = Math.max(1, range / 30);
        for (int i = 0; i < 30; i++) {
            int first = i * step;
            int end = first + 1 + next(step);
            put(label(0));
            both("addSpan(0, " + first + ", " + end + ")", () -> x.addSpan(0, first, end), () -> m.addSpan(0, first, end));
        }
    }

    private boolean run() {
        int tiers = 2 + next(4);
        for (int i = 0; i < tiers; i++) {
            int kind = next(4);
            int rule = i == 0 ? 0 : next(4);
            int parent = i == 0 ? 0 : next(i);
            both("addTier(" + kind + ", " + rule + ", " + parent + ")",
                () -> x.addTier(kind, rule, parent), () -> m.addTier(kind, rule, parent));
        }
        if (crowd == 30) {
            fill();
        }
        while (x.callsLeft() > costOfAll() + ROUND && !isWrong) {
            changeOnce();
            ask();
        }
        askAll();
        return isWrong;
    }

    public static void main(String[] args) {
        int[] refusals = new int[6];
        for (int i = 0; i < RUNS; i++) {
            ModelTest test = new ModelTest(i);
            if (test.run()) {
                System.out.println("run " + i + " is wrong");
                System.exit(1);
            }
            for (int reason = 1; reason < refusals.length; reason++) {
                refusals[reason] += test.m.refusals[reason];
            }
        }
        System.out.println("all runs are as in the model; refusals by their reasons " + Arrays.toString(refusals));
    }
}
