import java.util.NoSuchElementException;

/** A lesson book of a sign language: tiers with spans, told by two annotators. */
public final class LessonTiers {
    private static final int TIERS = 6;
    private static final int ANNOTATORS = 2;
    private static final int SPANS = 30;
    /** One more than the limit, as a split of a full row is tried before it is refused. */
    private static final int ROOM = 31;
    private static final int FRAMES = 1000;
    private static final int BUFFER = 100;
    private static final int LETTERS = 8;
    private static final int DIGITS = 4;
    private static final int PARTS = 4;
    private static final int MATCHES = 1000;
    private static final int CHANGES = 8;
    private static final int MOST_SETTING = 200;

    private static final int SIGNS = 0;
    private static final int HOLDS = 1;
    private static final int MOUTHINGS = 2;
    private static final int WORDS = 3;

    private static final int FREE = 0;
    private static final int INSIDE = 1;
    private static final int SAME_FRAMES = 2;
    private static final int SAME_FIRST = 3;

    private static final int BAD_RANGE = 1;
    private static final int IN_THE_WAY = 2;
    private static final int NO_HOST = 3;
    private static final int LOSES_HOST = 4;
    private static final int FULL = 5;

    private final Book now = new Book();
    /** Every change that may be refused is tried here, so that a refusal leaves the state as it was. */
    private final Book draft = new Book();
    private final Book saved = new Book();
    private final History history = new History();
    private final Input input = new Input();
    private final Refusal refusal = new Refusal();
    private final Aligner aligner = new Aligner();
    private final Merger merger = new Merger();
    private Pattern pattern = new Pattern();
    /** A malformed pattern must leave the latest one, so the next one is read here. */
    private Pattern nextPattern = new Pattern();
    private boolean hasSnapshot;
    private int malformedAt = -1;
    private int refusedAt = -1;

    public LessonTiers() {
    }

    public int clear() {
        int tiers = now.tiers;
        now.reset();
        history.forget();
        pattern.parts = 0;
        return tiers;
    }

    public int addTier(int kind, int rule, int parent)
            throws IllegalArgumentException, IndexOutOfBoundsException, IllegalStateException {
        if (kind < SIGNS || kind > WORDS || rule < FREE || rule > SAME_FIRST) {
            throw new IllegalArgumentException();
        }
        if (rule != FREE && !now.hasTier(parent)) {
            throw new IndexOutOfBoundsException();
        }
        if (now.tiers >= TIERS) {
            throw new IllegalStateException();
        }
        history.push(now);
        return now.putTier(kind, rule, parent);
    }

    public int select(int annotator) throws IllegalArgumentException {
        if (annotator < 0 || annotator >= ANNOTATORS) {
            throw new IllegalArgumentException();
        }
        history.push(now);
        int former = now.annotator;
        now.annotator = annotator;
        return former;
    }

    public int setSetting(int what, int value) throws IndexOutOfBoundsException, IllegalArgumentException {
        if (what < 0 || what > 1) {
            throw new IndexOutOfBoundsException();
        }
        if (value < 0 || value > MOST_SETTING) {
            throw new IllegalArgumentException();
        }
        history.push(now);
        int previous = what == 0 ? now.window : now.gap;
        if (what == 0) {
            now.window = value;
        } else {
            now.gap = value;
        }
        return previous;
    }

    public int tier(int tier, int what) throws IndexOutOfBoundsException, IllegalArgumentException {
        if (!now.hasTier(tier)) {
            throw new IndexOutOfBoundsException();
        }
        switch (what) {
            case 0:
                return now.kindOf(tier);
            case 1:
                return now.ruleOf(tier);
            case 2:
                return now.parentOf(tier);
            case 3:
                return now.present(tier).count;
            case 4:
                return now.present(tier).frameSum();
            case 5:
                return now.row(1 - now.annotator, tier).count;
            case 6:
                return now.childMask(tier);
            case 7:
                return now.present(tier).labelCount();
            default:
                throw new IllegalArgumentException();
        }
    }

    public int book(int what) throws IllegalArgumentException {
        switch (what) {
            case 0:
                return now.tiers;
            case 1:
                return now.annotator;
            case 2:
                return now.window;
            case 3:
                return now.gap;
            case 4:
                return now.spanCount();
            case 5:
                return input.length;
            case 6:
                return history.count;
            case 7:
                return pattern.parts;
            default:
                throw new IllegalArgumentException();
        }
    }

    public int append(int packed) throws IllegalArgumentException, IllegalStateException {
        int added = 0;
        for (int shift = 24; shift >= 0; shift -= 8) {
            int sign = packed >>> shift & 255;
            if (sign != 0 && (sign < 32 || sign > 126)) {
                throw new IllegalArgumentException();
            }
            added += sign != 0 ? 1 : 0;
        }
        if (input.length + added > BUFFER) {
            throw new IllegalStateException();
        }
        for (int shift = 24; shift >= 0; shift -= 8) {
            input.put(packed >>> shift & 255);
        }
        return input.length;
    }

    public int addSpan(int tier, int first, int end)
            throws IndexOutOfBoundsException, IllegalArgumentException, UnsupportedOperationException {
        if (!now.hasTier(tier)) {
            throw new IndexOutOfBoundsException();
        }
        long label = takeLabel(now.kindOf(tier));
        if (label == 0) {
            throw new IllegalArgumentException();
        }
        draft.copyFrom(now);
        int place = draft.insertSpan(tier, first, end, label, refusal);
        if (place < 0) {
            throw new UnsupportedOperationException();
        }
        keepDraft();
        return place;
    }

    public int removeSpan(int tier, int span) throws IndexOutOfBoundsException {
        if (!now.hasSpan(tier, span)) {
            throw new IndexOutOfBoundsException();
        }
        history.push(now);
        return now.dropSpan(tier, span);
    }

    public int moveSpan(int tier, int span, int first, int end)
            throws IndexOutOfBoundsException, UnsupportedOperationException {
        if (!now.hasSpan(tier, span)) {
            throw new IndexOutOfBoundsException();
        }
        draft.copyFrom(now);
        int place = draft.shiftSpan(tier, span, first, end, refusal);
        if (place < 0) {
            throw new UnsupportedOperationException();
        }
        keepDraft();
        return place;
    }

    public int rename(int tier, int span) throws IndexOutOfBoundsException, IllegalArgumentException {
        if (!now.hasSpan(tier, span)) {
            throw new IndexOutOfBoundsException();
        }
        long label = takeLabel(now.kindOf(tier));
        if (label == 0) {
            throw new IllegalArgumentException();
        }
        history.push(now);
        Row row = now.present(tier);
        int changed = row.label(span) != label ? 1 : 0;
        row.setLabel(span, label);
        return changed;
    }

    public int split(int tier, int span, int at) throws IndexOutOfBoundsException, UnsupportedOperationException {
        if (!now.hasSpan(tier, span)) {
            throw new IndexOutOfBoundsException();
        }
        draft.copyFrom(now);
        int count = draft.cutSpan(tier, span, at, refusal);
        if (count < 0) {
            throw new UnsupportedOperationException();
        }
        keepDraft();
        return count;
    }

    public int join(int tier, int span) throws IndexOutOfBoundsException, UnsupportedOperationException {
        if (!now.hasSpan(tier, span)) {
            throw new IndexOutOfBoundsException();
        }
        draft.copyFrom(now);
        int count = draft.uniteSpan(tier, span, refusal);
        if (count < 0) {
            throw new UnsupportedOperationException();
        }
        keepDraft();
        return count;
    }

    public int span(int tier, int span, int what) throws IndexOutOfBoundsException, IllegalArgumentException {
        if (!now.hasSpan(tier, span)) {
            throw new IndexOutOfBoundsException();
        }
        Row row = now.present(tier);
        switch (what) {
            case 0:
                return row.first(span);
            case 1:
                return row.end(span);
            case 2:
                return labelLength(row.label(span));
            case 3:
                return now.hostOf(now.annotator, tier, row.first(span), row.end(span));
            case 4:
                return now.guestCount(tier, span);
            default:
                throw new IllegalArgumentException();
        }
    }

    public char letter(int tier, int span, int index) throws IndexOutOfBoundsException, NoSuchElementException {
        if (!now.hasSpan(tier, span)) {
            throw new IndexOutOfBoundsException();
        }
        long label = now.present(tier).label(span);
        if (index < 0 || index >= labelLength(label)) {
            throw new NoSuchElementException();
        }
        return labelLetter(label, index);
    }

    public int spanAt(int tier, int frame) throws IndexOutOfBoundsException {
        if (!now.hasTier(tier)) {
            throw new IndexOutOfBoundsException();
        }
        return now.present(tier).spanWith(frame);
    }

    public int refusal(boolean isReason) throws NoSuchElementException {
        if (refusal.reason == 0) {
            throw new NoSuchElementException();
        }
        return isReason ? refusal.reason : refusal.number;
    }

    public int aligned(int tier, int other, int span) throws IndexOutOfBoundsException {
        if (!now.hasTier(other) || !now.hasSpan(tier, span)) {
            throw new IndexOutOfBoundsException();
        }
        aligner.run(now.present(tier), now.present(other), now.window);
        return aligner.partnerOf(span);
    }

    public int alignment(int tier, int other, boolean isPairs) throws IndexOutOfBoundsException {
        if (!now.hasTier(tier) || !now.hasTier(other)) {
            throw new IndexOutOfBoundsException();
        }
        aligner.run(now.present(tier), now.present(other), now.window);
        return isPairs ? aligner.pairs : aligner.distances;
    }

    public int search() throws IllegalArgumentException {
        boolean isWell = nextPattern.readFrom(input, now);
        if (!isWell) {
            malformedAt = input.position;
        }
        input.empty();
        if (!isWell) {
            throw new IllegalArgumentException();
        }
        Pattern former = pattern;
        pattern = nextPattern;
        nextPattern = former;
        return pattern.countMatches(now);
    }

    public int match(int match, int item) throws IllegalStateException, NoSuchElementException {
        if (pattern.parts == 0) {
            throw new IllegalStateException();
        }
        if (item < 0 || item >= pattern.parts || match < 0 || match >= pattern.countMatches(now)) {
            throw new NoSuchElementException();
        }
        return pattern.spanOf(now, match, item);
    }

    public int merge(int tier, int what) throws IndexOutOfBoundsException, IllegalArgumentException {
        if (!now.hasTier(tier)) {
            throw new IndexOutOfBoundsException();
        }
        merger.run(now.row(0, tier), now.row(1, tier));
        switch (what) {
            case 0:
                return merger.count;
            case 1:
                return merger.conflicts;
            case 2:
                return merger.dropped;
            case 3:
                return merger.sharedCount();
            case 4:
                return merger.frameSum();
            default:
                throw new IllegalArgumentException();
        }
    }

    public int merged(int tier, int index, int what)
            throws IndexOutOfBoundsException, NoSuchElementException, IllegalArgumentException {
        if (!now.hasTier(tier)) {
            throw new IndexOutOfBoundsException();
        }
        merger.run(now.row(0, tier), now.row(1, tier));
        if (!merger.has(index)) {
            throw new NoSuchElementException();
        }
        switch (what) {
            case 0:
                return merger.first(index);
            case 1:
                return merger.end(index);
            case 2:
                return merger.source(index);
            case 3:
                return labelLength(merger.label(index));
            default:
                throw new IllegalArgumentException();
        }
    }

    public int frames(int tier, int what) throws IndexOutOfBoundsException, IllegalArgumentException {
        if (!now.hasTier(tier)) {
            throw new IndexOutOfBoundsException();
        }
        Row zero = now.row(0, tier);
        Row one = now.row(1, tier);
        switch (what) {
            case 0:
                return zero.frameSum();
            case 1:
                return one.frameSum();
            case 2:
                return zero.commonFrames(one, true);
            case 3:
                return zero.commonFrames(one, false);
            case 4:
                return zero.framesWith(one);
            default:
                throw new IllegalArgumentException();
        }
    }

    public float agreement(int tier) throws IndexOutOfBoundsException, ArithmeticException {
        if (!now.hasTier(tier)) {
            throw new IndexOutOfBoundsException();
        }
        Row zero = now.row(0, tier);
        Row one = now.row(1, tier);
        int told = zero.framesWith(one);
        if (told == 0) {
            throw new ArithmeticException();
        }
        return (float) zero.commonFrames(one, true) / (float) told;
    }

    public double kappa(int tier) throws IndexOutOfBoundsException, ArithmeticException {
        if (!now.hasTier(tier)) {
            throw new IndexOutOfBoundsException();
        }
        Row zero = now.row(0, tier);
        Row one = now.row(1, tier);
        int same = zero.commonFrames(one, true) + FRAMES - zero.framesWith(one);
        int products = zero.labelProducts(one) + (FRAMES - zero.frameSum()) * (FRAMES - one.frameSum());
        double p = (double) same / 1000.0;
        double c = (double) products / 1000000.0;
        if (c == 1.0) {
            throw new ArithmeticException();
        }
        return (p - c) / (1.0 - c);
    }

    public boolean isConsistent() {
        for (int annotator = 0; annotator < ANNOTATORS; annotator++) {
            for (int tier = 0; tier < now.tiers; tier++) {
                Row row = now.row(annotator, tier);
                if (!row.isInOrder() || row.coveredFrames() != row.frameSum() || now.hasOrphan(annotator, tier)) {
                    return false;
                }
            }
        }
        return true;
    }

    public int read() throws IllegalArgumentException, UnsupportedOperationException {
        int items = input.countItems(now);
        if (items == 0) {
            malformedAt = input.position;
            input.empty();
            throw new IllegalArgumentException();
        }
        draft.copyFrom(now);
        int added = addItems(items);
        input.empty();
        if (added < items) {
            refusedAt = added;
            throw new UnsupportedOperationException();
        }
        keepDraft();
        return items;
    }

    public int errorPosition() throws NoSuchElementException {
        if (malformedAt < 0) {
            throw new NoSuchElementException();
        }
        return malformedAt;
    }

    public int refusedItem() throws NoSuchElementException {
        if (refusedAt < 0) {
            throw new NoSuchElementException();
        }
        return refusedAt;
    }

    public int undo() throws IllegalStateException {
        if (history.count == 0) {
            throw new IllegalStateException();
        }
        history.pop(now);
        return history.count;
    }

    public int snapshot() {
        saved.copyFrom(now);
        hasSnapshot = true;
        return now.tiers;
    }

    public int restore() throws IllegalStateException {
        if (!hasSnapshot) {
            throw new IllegalStateException();
        }
        now.copyFrom(saved);
        history.forget();
        return now.tiers;
    }

    private void keepDraft() {
        history.push(now);
        now.copyFrom(draft);
    }

    /** Empties the buffer and returns the label that it held, or 0 if it held none of this kind. */
    private long takeLabel(int kind) {
        input.restart();
        long label = input.readLabel(kind);
        boolean isWell = label != 0 && input.isAtEnd();
        if (!isWell) {
            malformedAt = input.position;
        }
        input.empty();
        return isWell ? label : 0;
    }

    /** Adds the items of a text that is known to be well-formed to the draft, up to the first one that is refused. */
    private int addItems(int items) {
        input.restart();
        for (int item = 0; item < items; item++) {
            input.readItem(draft);
            if (draft.insertSpan(input.itemTier, input.itemFirst, input.itemEnd, input.itemLabel, refusal) < 0) {
                return item;
            }
            input.take(';');
        }
        return items;
    }

    /** A label is a long with its first letter in the lowest byte, so that the same labels are the same numbers. */
    private static long withLetter(long label, int index, char letter) {
        return label | (long) letter << 8 * index;
    }

    private static int labelLength(long label) {
        int length = 0;
        for (int i = 0; i < LETTERS; i++) {
            length += labelLetter(label, i) != 0 ? 1 : 0;
        }
        return length;
    }

    private static char labelLetter(long label, int index) {
        return (char) (label >>> 8 * index & 255);
    }

    /** The spans of one annotator in one tier, in ascending order of their first frames. */
    private static final class Row {
        private final int[] firsts = new int[ROOM];
        private final int[] ends = new int[ROOM];
        private final long[] labels = new long[ROOM];
        private int count;

        int first(int span) {
            return span >= 0 && span < ROOM ? firsts[span] : 0;
        }

        int end(int span) {
            return span >= 0 && span < ROOM ? ends[span] : 0;
        }

        long label(int span) {
            return span >= 0 && span < ROOM ? labels[span] : 0;
        }

        int length(int span) {
            return end(span) - first(span);
        }

        void setLabel(int span, long label) {
            if (span >= 0 && span < ROOM) {
                labels[span] = label;
            }
        }

        void setFrames(int span, int first, int end) {
            if (span >= 0 && span < ROOM) {
                firsts[span] = first;
                ends[span] = end;
            }
        }

        void copyFrom(Row other) {
            int length = other.count;
            if (length >= 0 && length <= ROOM) {
                System.arraycopy(other.firsts, 0, firsts, 0, length);
                System.arraycopy(other.ends, 0, ends, 0, length);
                System.arraycopy(other.labels, 0, labels, 0, length);
                count = length;
            }
        }

        private void shift(int from, int to) {
            setFrames(to, first(from), end(from));
            setLabel(to, label(from));
        }

        /** Returns the number of the new span, or -1 if there is no room, which no caller leaves to happen. */
        int insert(int first, int end, long label) {
            if (count >= ROOM) {
                return -1;
            }
            int place = count;
            while (place > 0 && first(place - 1) > first) {
                shift(place - 1, place);
                place--;
            }
            setFrames(place, first, end);
            setLabel(place, label);
            count++;
            return place;
        }

        void delete(int span) {
            if (span < 0 || span >= count) {
                return;
            }
            for (int i = span; i < count - 1; i++) {
                shift(i + 1, i);
            }
            count--;
        }

        /** The lowest span that has a frame in common with these frames, but for one that does not count. */
        int meeting(int first, int end, int except) {
            for (int i = 0; i < count; i++) {
                if (i != except && first(i) < end && first < end(i)) {
                    return i;
                }
            }
            return -1;
        }

        int spanWith(int frame) {
            for (int i = 0; i < count; i++) {
                if (first(i) <= frame && frame < end(i)) {
                    return i;
                }
            }
            return -1;
        }

        int host(int rule, int first, int end) {
            for (int i = 0; i < count && i < ROOM; i++) {
                boolean isFirst = firsts[i] == first;
                boolean isEnd = ends[i] == end;
                if (rule == INSIDE && firsts[i] <= first && end <= ends[i]
                        || rule == SAME_FRAMES && isFirst && isEnd
                        || rule == SAME_FIRST && isFirst) {
                    return i;
                }
            }
            return -1;
        }

        int frameSum() {
            int sum = 0;
            for (int i = 0; i < count; i++) {
                sum += length(i);
            }
            return sum;
        }

        int labelCount() {
            int different = 0;
            for (int i = 0; i < count; i++) {
                different += isLabelNew(i) ? 1 : 0;
            }
            return different;
        }

        private boolean isLabelNew(int span) {
            for (int i = 0; i < span; i++) {
                if (label(i) == label(span)) {
                    return false;
                }
            }
            return true;
        }

        boolean isInOrder() {
            int free = 0;
            for (int i = 0; i < count; i++) {
                if (first(i) < free || end(i) <= first(i) || end(i) > FRAMES) {
                    return false;
                }
                free = end(i);
            }
            return true;
        }

        int coveredFrames() {
            int covered = 0;
            int reached = 0;
            for (int i = 0; i < count; i++) {
                covered += Math.max(0, end(i) - Math.max(first(i), reached));
                reached = Math.max(reached, end(i));
            }
            return covered;
        }

        int commonFrames(Row other, boolean isSameLabel) {
            int common = 0;
            for (int i = 0; i < count; i++) {
                for (int j = 0; j < other.count; j++) {
                    if (!isSameLabel || label(i) == other.label(j)) {
                        int first = Math.max(first(i), other.first(j));
                        common += Math.max(0, Math.min(end(i), other.end(j)) - first);
                    }
                }
            }
            return common;
        }

        /** The frames to which at least one of both rows gives a label. */
        int framesWith(Row other) {
            return frameSum() + other.frameSum() - commonFrames(other, false);
        }

        /** The products of the frames that both rows give to a label, summed: pair by pair it is the same sum. */
        int labelProducts(Row other) {
            int products = 0;
            for (int i = 0; i < count; i++) {
                for (int j = 0; j < other.count; j++) {
                    products += label(i) == other.label(j) ? length(i) * other.length(j) : 0;
                }
            }
            return products;
        }
    }

    /** Everything that changes can change. */
    private static final class Book {
        private final int[] kinds = new int[TIERS];
        private final int[] rules = new int[TIERS];
        private final int[] parents = new int[TIERS];
        private final Row[] rows = new Row[ANNOTATORS * TIERS];
        private final Row noRow = new Row();
        private int tiers;
        private int annotator;
        private int window = 50;
        private int gap = 20;

        Book() {
            for (int i = 0; i < rows.length; i++) {
                rows[i] = new Row();
            }
        }

        void reset() {
            tiers = 0;
            annotator = 0;
            window = 50;
            gap = 20;
        }

        void copyFrom(Book other) {
            tiers = other.tiers;
            annotator = other.annotator;
            window = other.window;
            gap = other.gap;
            for (int tier = 0; tier < tiers; tier++) {
                setTier(tier, other.kindOf(tier), other.ruleOf(tier), other.parentOf(tier));
                row(0, tier).copyFrom(other.row(0, tier));
                row(1, tier).copyFrom(other.row(1, tier));
            }
        }

        boolean hasTier(int tier) {
            return tier >= 0 && tier < tiers;
        }

        boolean hasSpan(int tier, int span) {
            return hasTier(tier) && span >= 0 && span < present(tier).count;
        }

        int kindOf(int tier) {
            return tier >= 0 && tier < TIERS ? kinds[tier] : 0;
        }

        int ruleOf(int tier) {
            return tier >= 0 && tier < TIERS ? rules[tier] : 0;
        }

        int parentOf(int tier) {
            return tier >= 0 && tier < TIERS ? parents[tier] : -1;
        }

        Row row(int annotator, int tier) {
            int place = annotator * TIERS + tier;
            Row row = place >= 0 && place < rows.length ? rows[place] : null;
            return row != null ? row : noRow;
        }

        Row present(int tier) {
            return row(annotator, tier);
        }

        private void setTier(int tier, int kind, int rule, int parent) {
            if (tier >= 0 && tier < TIERS) {
                kinds[tier] = kind;
                rules[tier] = rule;
                parents[tier] = parent;
            }
        }

        /** The rows of a tier that there was before an undo or a clear still have spans, so they are emptied here. */
        int putTier(int kind, int rule, int parent) {
            int tier = tiers;
            setTier(tier, kind, rule, rule == FREE ? -1 : parent);
            row(0, tier).count = 0;
            row(1, tier).count = 0;
            tiers++;
            return tier;
        }

        int childMask(int tier) {
            int mask = 0;
            for (int child = tier + 1; child < tiers; child++) {
                mask |= parentOf(child) == tier ? 1 << child : 0;
            }
            return mask;
        }

        int spanCount() {
            int sum = 0;
            for (int tier = 0; tier < tiers; tier++) {
                sum += row(0, tier).count + row(1, tier).count;
            }
            return sum;
        }

        int hostOf(int annotator, int tier, int first, int end) {
            if (ruleOf(tier) == FREE) {
                return -1;
            }
            return row(annotator, parentOf(tier)).host(ruleOf(tier), first, end);
        }

        private boolean lacksHost(int annotator, int tier, int first, int end) {
            return ruleOf(tier) != FREE && hostOf(annotator, tier, first, end) < 0;
        }

        int guestCount(int tier, int span) {
            int guests = 0;
            for (int child = tier + 1; child < tiers; child++) {
                Row row = present(child);
                for (int i = 0; i < row.count && parentOf(child) == tier; i++) {
                    guests += hostOf(annotator, child, row.first(i), row.end(i)) == span ? 1 : 0;
                }
            }
            return guests;
        }

        boolean hasOrphan(int annotator, int tier) {
            Row row = row(annotator, tier);
            for (int i = 0; i < row.count; i++) {
                if (lacksHost(annotator, tier, row.first(i), row.end(i))) {
                    return true;
                }
            }
            return false;
        }

        /** Ahead of a change all spans have their hosts, so what has none behind it has lost it by the change. */
        private int lowestBereft(int tier) {
            for (int child = tier + 1; child < tiers; child++) {
                if (parentOf(child) == tier && hasOrphan(annotator, child)) {
                    return child;
                }
            }
            return -1;
        }

        /** Looks for the reasons 1 to 3; returns -1 if there is one, otherwise 0. */
        private int tryFrames(int tier, int span, int first, int end, Refusal refusal) {
            if (first < 0 || end > FRAMES || end <= first) {
                return refusal.refuse(BAD_RANGE, 0);
            }
            int other = present(tier).meeting(first, end, span);
            if (other >= 0) {
                return refusal.refuse(IN_THE_WAY, other);
            }
            return lacksHost(annotator, tier, first, end) ? refusal.refuse(NO_HOST, 0) : 0;
        }

        /** Returns the number of the new span, or -1 if it is refused. */
        int insertSpan(int tier, int first, int end, long label, Refusal refusal) {
            if (tryFrames(tier, -1, first, end, refusal) < 0) {
                return -1;
            }
            Row row = present(tier);
            if (row.count >= SPANS) {
                return refusal.refuse(FULL, 0);
            }
            return row.insert(first, end, label);
        }

        /** Returns the number that the span has then, or -1 if it is refused. */
        int shiftSpan(int tier, int span, int first, int end, Refusal refusal) {
            if (tryFrames(tier, span, first, end, refusal) < 0) {
                return -1;
            }
            Row row = present(tier);
            long label = row.label(span);
            row.delete(span);
            int place = row.insert(first, end, label);
            int bereft = lowestBereft(tier);
            return bereft >= 0 ? refusal.refuse(LOSES_HOST, bereft) : place;
        }

        /** Returns the number of spans of the tier then, or -1 if it is refused. */
        int cutSpan(int tier, int span, int at, Refusal refusal) {
            Row row = present(tier);
            int first = row.first(span);
            int end = row.end(span);
            if (at <= first || at >= end) {
                return refusal.refuse(BAD_RANGE, 0);
            }
            if (lacksHost(annotator, tier, first, at) || lacksHost(annotator, tier, at, end)) {
                return refusal.refuse(NO_HOST, 0);
            }
            row.setFrames(span, first, at);
            row.insert(at, end, row.label(span));
            int bereft = lowestBereft(tier);
            if (bereft >= 0) {
                return refusal.refuse(LOSES_HOST, bereft);
            }
            return row.count > SPANS ? refusal.refuse(FULL, 0) : row.count;
        }

        /** Returns the number of spans of the tier then, or -1 if it is refused. */
        int uniteSpan(int tier, int span, Refusal refusal) {
            Row row = present(tier);
            if (span + 1 >= row.count) {
                return refusal.refuse(BAD_RANGE, 0);
            }
            int first = row.first(span);
            int end = row.end(span + 1);
            if (lacksHost(annotator, tier, first, end)) {
                return refusal.refuse(NO_HOST, 0);
            }
            row.setFrames(span, first, end);
            row.delete(span + 1);
            int bereft = lowestBereft(tier);
            return bereft >= 0 ? refusal.refuse(LOSES_HOST, bereft) : row.count;
        }

        /** Parents have lower numbers, so one way up through the tiers finds all that depends on the span. */
        int dropSpan(int tier, int span) {
            present(tier).delete(span);
            int removed = 1;
            for (int child = tier + 1; child < tiers; child++) {
                removed += dropOrphans(child);
            }
            return removed;
        }

        private int dropOrphans(int tier) {
            Row row = present(tier);
            int removed = 0;
            for (int i = row.count - 1; i >= 0; i--) {
                if (lacksHost(annotator, tier, row.first(i), row.end(i))) {
                    row.delete(i);
                    removed++;
                }
            }
            return removed;
        }
    }

    /** The latest refusal; the reason 0 means that nothing was refused. */
    private static final class Refusal {
        private int reason;
        private int number;

        int refuse(int newReason, int newNumber) {
            reason = newReason;
            number = newNumber;
            return -1;
        }
    }

    /** The states ahead of the latest changes, in a ring in which the oldest one gives way. */
    private static final class History {
        private final Book[] states = new Book[CHANGES];
        private int next;
        private int count;

        History() {
            for (int i = 0; i < states.length; i++) {
                states[i] = new Book();
            }
        }

        void push(Book book) {
            Book state = next >= 0 && next < states.length ? states[next] : null;
            if (state != null) {
                state.copyFrom(book);
            }
            next = next < CHANGES - 1 ? next + 1 : 0;
            count = Math.min(count + 1, CHANGES);
        }

        void pop(Book book) {
            next = next > 0 ? next - 1 : CHANGES - 1;
            count--;
            Book state = next >= 0 && next < states.length ? states[next] : null;
            if (state != null) {
                book.copyFrom(state);
            }
        }

        void forget() {
            count = 0;
        }
    }

    /** The input buffer, and a reader that stops at the error position of what it reads. */
    private static final class Input {
        private final char[] signs = new char[BUFFER];
        private int length;
        private int position;
        private int itemTier;
        private int itemFirst;
        private int itemEnd;
        private long itemLabel;

        void put(int sign) {
            if (sign != 0 && length >= 0 && length < BUFFER) {
                signs[length] = (char) sign;
                length++;
            }
        }

        void empty() {
            length = 0;
        }

        void restart() {
            position = 0;
        }

        boolean isAtEnd() {
            return position >= length;
        }

        /** Returns 0 at the end, which is no character of the buffer. */
        private char peek() {
            return position >= 0 && position < length && position < BUFFER ? signs[position] : 0;
        }

        boolean take(char sign) {
            if (peek() != sign) {
                return false;
            }
            position++;
            return true;
        }

        private boolean isDigit() {
            return peek() >= '0' && peek() <= '9';
        }

        /** Returns -1 where there is no digit of a tier. */
        int readTier(int tiers) {
            int tier = peek() - '0';
            if (tier < 0 || tier >= tiers) {
                return -1;
            }
            position++;
            return tier;
        }

        /** Returns -1 where there is no number; a digit behind 0 is left for the caller to stumble at. */
        private int readNumber() {
            if (!isDigit()) {
                return -1;
            }
            if (take('0')) {
                return 0;
            }
            int number = 0;
            for (int i = 0; i < DIGITS && isDigit(); i++) {
                number = number * 10 + peek() - '0';
                position++;
            }
            return number;
        }

        private boolean isLetterOf(int kind) {
            char sign = peek();
            switch (kind) {
                case HOLDS:
                    return sign == 'l' || sign == 'r' || sign == 'b';
                case MOUTHINGS:
                    return isDigit();
                default:
                    return sign >= 'a' && sign <= 'z';
            }
        }

        /** Returns 0 where there is no label. */
        long readLabel(int kind) {
            int most = kind == SIGNS || kind == WORDS ? LETTERS : 1;
            long label = 0;
            for (int i = 0; i < most && isLetterOf(kind); i++) {
                label = withLetter(label, i, peek());
                position++;
            }
            return label;
        }

        /** Reads an item into the item's fields; false if it is malformed at the position. */
        boolean readItem(Book book) {
            itemTier = readTier(book.tiers);
            if (itemTier < 0 || !take(':')) {
                return false;
            }
            itemFirst = readNumber();
            if (itemFirst < 0 || !take('-')) {
                return false;
            }
            itemEnd = readNumber();
            if (itemEnd < 0 || !take('=')) {
                return false;
            }
            itemLabel = readLabel(book.kindOf(itemTier));
            return itemLabel != 0;
        }

        /** The items of a text of spans, or 0 if it is malformed at the position. */
        int countItems(Book book) {
            restart();
            for (int items = 1; items <= BUFFER; items++) {
                if (!readItem(book)) {
                    return 0;
                }
                if (isAtEnd()) {
                    return items;
                }
                if (!take(';')) {
                    return 0;
                }
            }
            return 0;
        }
    }

    /** A pattern; with 0 parts there is none. A label of 0 stands for any label. */
    private static final class Pattern {
        private final int[] tiers = new int[PARTS];
        private final int[] kinds = new int[PARTS];
        private final long[] labels = new long[PARTS];
        /** Whether a part is linked with the one before it by "&". */
        private final boolean[] isMeeting = new boolean[PARTS];
        /** For each part and span, the ways to go on from there to the last part, up to MATCHES. */
        private final int[] ways = new int[PARTS * SPANS];
        private final Row noRow = new Row();
        private int parts;

        /** Reads the text in the input; false if it is malformed at the input's position. */
        boolean readFrom(Input input, Book book) {
            input.restart();
            parts = 0;
            for (int part = 0; part < PARTS; part++) {
                if (!readPart(input, book, part)) {
                    return false;
                }
                parts = part + 1;
                if (input.isAtEnd()) {
                    return true;
                }
                if (!readLink(input, part + 1)) {
                    return false;
                }
            }
            return false;
        }

        private boolean readPart(Input input, Book book, int part) {
            int tier = input.readTier(book.tiers);
            if (tier < 0 || !input.take('=')) {
                return false;
            }
            boolean isAny = input.take('*');
            long label = isAny ? 0 : input.readLabel(book.kindOf(tier));
            if (part >= 0 && part < PARTS) {
                tiers[part] = tier;
                kinds[part] = book.kindOf(tier);
                labels[part] = label;
            }
            return isAny || label != 0;
        }

        /** There is no part behind the fourth one, so a link to it is not taken. */
        private boolean readLink(Input input, int part) {
            if (part < 0 || part >= PARTS) {
                return false;
            }
            isMeeting[part] = input.take('&');
            return isMeeting[part] || input.take(',');
        }

        /** The row of a part, without spans if its tier is gone or is another one now. */
        private Row rowOf(Book book, int part) {
            if (part < 0 || part >= PARTS) {
                return noRow;
            }
            int tier = tiers[part];
            return book.hasTier(tier) && book.kindOf(tier) == kinds[part] ? book.present(tier) : noRow;
        }

        private boolean fits(Row row, int span, int part) {
            if (part < 0 || part >= PARTS) {
                return false;
            }
            boolean isBoth = kinds[part] == HOLDS && row.label(span) == 'b';
            return labels[part] == 0 || labels[part] == row.label(span) || isBoth;
        }

        private boolean isLinked(Row row, int span, Row next, int nextSpan, int part, int gap) {
            if (part >= 0 && part < PARTS && isMeeting[part]) {
                return row.first(span) < next.end(nextSpan) && next.first(nextSpan) < row.end(span);
            }
            int pause = next.first(nextSpan) - row.end(span);
            return pause >= 0 && pause <= gap;
        }

        private int waysFrom(int part, int span) {
            int place = part * SPANS + span;
            return span >= 0 && span < SPANS && place >= 0 && place < ways.length ? ways[place] : 0;
        }

        /** Ways are enough up to MATCHES, as no match behind the first MATCHES ones is told. */
        int countMatches(Book book) {
            int sum = 0;
            for (int part = parts - 1; part >= 0; part--) {
                Row row = rowOf(book, part);
                sum = 0;
                for (int span = 0; span < row.count && span < SPANS; span++) {
                    int found = fits(row, span, part) ? countOn(book, part, row, span) : 0;
                    int place = part * SPANS + span;
                    if (place >= 0 && place < ways.length) {
                        ways[place] = found;
                    }
                    sum += found;
                }
            }
            return Math.min(sum, MATCHES);
        }

        private int countOn(Book book, int part, Row row, int span) {
            if (part == parts - 1) {
                return 1;
            }
            Row next = rowOf(book, part + 1);
            int sum = 0;
            for (int i = 0; i < next.count; i++) {
                sum += isLinked(row, span, next, i, part + 1, book.gap) ? waysFrom(part + 1, i) : 0;
            }
            return Math.min(sum, MATCHES);
        }

        /** The span for an item of a match that there is; the ways must have been counted for this book. */
        int spanOf(Book book, int match, int item) {
            int rest = match;
            Row row = noRow;
            int span = -1;
            for (int part = 0; part <= item && part < PARTS; part++) {
                Row next = rowOf(book, part);
                int chosen = -1;
                for (int i = 0; i < next.count && chosen < 0; i++) {
                    boolean isNext = part == 0 || isLinked(row, span, next, i, part, book.gap);
                    int found = isNext ? waysFrom(part, i) : 0;
                    if (rest < found) {
                        chosen = i;
                    } else {
                        rest -= found;
                    }
                }
                row = next;
                span = chosen;
            }
            return span;
        }
    }

    /** The alignment of one row with another one. */
    private static final class Aligner {
        /** More than all distances of an alignment together, so that pairs count before distances. */
        private static final int PAIR = 10000;

        private final int[] best = new int[ROOM * ROOM];
        private final int[] partners = new int[SPANS];
        private int pairs;
        private int distances;

        void run(Row from, Row to, int window) {
            fillBest(from, to, window);
            pairs = 0;
            distances = 0;
            int free = 0;
            for (int i = 0; i < from.count && i < SPANS; i++) {
                int partner = choose(from, i, to, free, window);
                partners[i] = partner;
                if (partner >= 0) {
                    pairs++;
                    distances += distance(from, i, to, partner);
                    free = partner + 1;
                }
            }
        }

        int partnerOf(int span) {
            return span >= 0 && span < SPANS ? partners[span] : -1;
        }

        private static int distance(Row from, int i, Row to, int j) {
            return Math.abs(from.first(i) - to.first(j)) + Math.abs(from.end(i) - to.end(j));
        }

        /** 0 means that the spans are too far from each other, as a pair is always worth more. */
        private static int worth(Row from, int i, Row to, int j, int window) {
            int distance = distance(from, i, to, j);
            return distance <= window ? PAIR - distance : 0;
        }

        private int bestFrom(int i, int j) {
            int place = i * ROOM + j;
            return place >= 0 && place < best.length ? best[place] : 0;
        }

        /** The best worth of the spans from each i on with those from each j on. */
        private void fillBest(Row from, Row to, int window) {
            for (int i = Math.min(from.count, SPANS); i >= 0; i--) {
                for (int j = Math.min(to.count, SPANS); j >= 0; j--) {
                    int most = 0;
                    if (i < from.count && j < to.count) {
                        int worth = worth(from, i, to, j, window);
                        most = Math.max(bestFrom(i + 1, j), bestFrom(i, j + 1));
                        most = worth > 0 ? Math.max(most, worth + bestFrom(i + 1, j + 1)) : most;
                    }
                    int place = i * ROOM + j;
                    if (place >= 0 && place < best.length) {
                        best[place] = most;
                    }
                }
            }
        }

        /** The lowest span from the free ones on with which the rest can still be the best, or -1. */
        private int choose(Row from, int i, Row to, int free, int window) {
            int most = bestFrom(i, free);
            for (int j = free; j < to.count; j++) {
                int worth = worth(from, i, to, j, window);
                if (worth > 0 && worth + bestFrom(i + 1, j + 1) == most) {
                    return j;
                }
            }
            return -1;
        }
    }

    /** The merge of the rows of both annotators in a tier. */
    private static final class Merger {
        private static final int MOST = 2 * SPANS;

        private final int[] firsts = new int[MOST];
        private final int[] ends = new int[MOST];
        private final int[] sources = new int[MOST];
        private final long[] labels = new long[MOST];
        private int count;
        private int conflicts;
        private int dropped;

        boolean has(int index) {
            return index >= 0 && index < count && index < MOST;
        }

        int first(int index) {
            return has(index) ? firsts[index] : 0;
        }

        int end(int index) {
            return has(index) ? ends[index] : 0;
        }

        int source(int index) {
            return has(index) ? sources[index] : 0;
        }

        long label(int index) {
            return has(index) ? labels[index] : 0;
        }

        void run(Row zero, Row one) {
            count = 0;
            conflicts = 0;
            dropped = 0;
            int total = zero.count + one.count;
            int i = 0;
            for (int taken = 0; taken < total; taken++) {
                int j = taken - i;
                if (isBefore(zero, i, one, j)) {
                    put(zero, i, 1);
                    i++;
                } else {
                    put(one, j, 2);
                }
            }
        }

        private static boolean isBefore(Row zero, int i, Row one, int j) {
            if (i >= zero.count || j >= one.count) {
                return i < zero.count;
            }
            if (zero.first(i) != one.first(j)) {
                return zero.first(i) < one.first(j);
            }
            return zero.end(i) <= one.end(j);
        }

        private void put(Row row, int span, int source) {
            int last = count - 1;
            boolean isOver = has(last) && row.first(span) < end(last);
            if (isOver && label(last) == row.label(span)) {
                ends[last] = Math.max(end(last), row.end(span));
                sources[last] = source(last) | source;
                return;
            }
            conflicts += isOver ? 1 : 0;
            int first = isOver ? end(last) : row.first(span);
            if (first >= row.end(span)) {
                dropped++;
                return;
            }
            if (count >= 0 && count < MOST) {
                firsts[count] = first;
                ends[count] = row.end(span);
                sources[count] = source;
                labels[count] = row.label(span);
                count++;
            }
        }

        int sharedCount() {
            int shared = 0;
            for (int i = 0; i < count; i++) {
                shared += source(i) == 3 ? 1 : 0;
            }
            return shared;
        }

        int frameSum() {
            int sum = 0;
            for (int i = 0; i < count; i++) {
                sum += end(i) - first(i);
            }
            return sum;
        }
    }
}
