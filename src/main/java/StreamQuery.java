/**
 * A query that goes on over two streams of events: A is gathered in windows by
 * time, A and B are paired by key and nearness in time, and what is told waits
 * in a queue with an end.
 */
public final class StreamQuery {
    public static final int NONE = -1, BAD = -2, FULL = -3, LATE = -4, STALE = -5;

    private static final int FIRST_MARK = -2000000000;
    private static final int TIME_LIMIT = 1000000000;
    private static final int SETTING_LIMIT = 1000000;
    private static final int WINDOWS_LIMIT = 16;
    private static final int ROOM_LIMIT = 200;
    private static final int LINE_LIMIT = 400;
    private static final int OF_WINDOW = 1;
    private static final int OF_PAIR = 2;

    private final Events ofA = new Events();
    private final Events ofB = new Events();
    private final Groups groups = new Groups();
    private final Line queue = new Line();

    private int width;
    private int slide;
    private int lateness;
    private int span;
    private int room;
    private int line;

    private int markOfA;
    private int markOfB;
    private int lateEvents;
    private int pairsTold;
    private int groupsTold;
    private int eventsTaken;

    public StreamQuery() {
        width = 10;
        slide = 10;
        lateness = 0;
        span = 0;
        room = 100;
        line = 200;
        startAgain();
    }

    public int set(int width, int slide, int lateness, int span, int room, int line) {
        if (!areWindows(width, slide)
                || !isWithin(lateness, 0, SETTING_LIMIT)
                || !isWithin(span, 0, SETTING_LIMIT)
                || !isWithin(room, 1, ROOM_LIMIT)
                || !isWithin(line, 1, LINE_LIMIT)) {
            return BAD;
        }
        this.width = width;
        this.slide = slide;
        this.lateness = lateness;
        this.span = span;
        this.room = room;
        this.line = line;
        startAgain();
        return 0;
    }

    public int eventA(int time, int key, int value) {
        int pairs = admit(ofB, time, key);
        if (pairs < 0) {
            return pairs;
        }
        for (int i = 0; i < ofB.size(); i++) {
            if (ofB.isNear(i, time, key, span)) {
                queue.add(OF_PAIR, time, ofB.time(i), key, value, ofB.value(i));
            }
        }
        ofA.add(time, key, value);
        gather(time, key, value);
        countTaken(pairs);
        return pairs;
    }

    public int eventB(int time, int key, int value) {
        int pairs = admit(ofA, time, key);
        if (pairs < 0) {
            return pairs;
        }
        for (int i = 0; i < ofA.size(); i++) {
            if (ofA.isNear(i, time, key, span)) {
                queue.add(OF_PAIR, ofA.time(i), time, key, ofA.value(i), value);
            }
        }
        ofB.add(time, key, value);
        countTaken(pairs);
        return pairs;
    }

    public int markA(int time) {
        int refusal = refusalOfMark(time, markOfA);
        if (refusal != 0) {
            return refusal;
        }
        int windows = tellWindows(Math.min(time, markOfB));
        if (windows == FULL) {
            return FULL;
        }
        markOfA = time;
        dropEvents();
        return windows;
    }

    public int markB(int time) {
        int refusal = refusalOfMark(time, markOfB);
        if (refusal != 0) {
            return refusal;
        }
        int windows = tellWindows(Math.min(markOfA, time));
        if (windows == FULL) {
            return FULL;
        }
        markOfB = time;
        dropEvents();
        return windows;
    }

    public int mark() {
        return Math.min(markOfA, markOfB);
    }

    public int available() {
        return queue.size();
    }

    public int kind(int i) {
        return queue.cell(i, 0);
    }

    public int field(int i, int k) {
        return isWithin(k, 0, 4) ? queue.cell(i, k + 1) : 0;
    }

    public boolean pop() {
        return queue.dropFirst();
    }

    public int look(int end, int key, int what) {
        Group group = groups.find(end, key);
        if (group == null) {
            return 0;
        }
        switch (what) {
            case 0: return group.sum;
            case 1: return group.many;
            case 2: return group.greatest;
            default: return 0;
        }
    }

    public int event(int stream, int i, int what) {
        if (!isWithin(stream, 0, 1)) {
            return 0;
        }
        Events events = stream == 0 ? ofA : ofB;
        switch (what) {
            case 0: return events.time(i);
            case 1: return events.key(i);
            case 2: return events.value(i);
            default: return 0;
        }
    }

    public int count(int what) {
        switch (what) {
            case 0: return ofA.size();
            case 1: return ofB.size();
            case 2: return lateEvents;
            case 3: return markOfA;
            case 4: return markOfB;
            case 5: return groups.windowsUpTo(Integer.MAX_VALUE);
            case 6: return pairsTold;
            case 7: return groupsTold;
            case 8: return eventsTaken;
            default: return BAD;
        }
    }

    private void startAgain() {
        ofA.clear();
        ofB.clear();
        groups.clear();
        queue.clear();
        markOfA = FIRST_MARK;
        markOfB = FIRST_MARK;
        lateEvents = 0;
        pairsTold = 0;
        groupsTold = 0;
        eventsTaken = 0;
    }

    private static boolean isWithin(int number, int least, int greatest) {
        return least <= number && number <= greatest;
    }

    private static boolean isTime(int number) {
        return isWithin(number, -TIME_LIMIT, TIME_LIMIT);
    }

    /** The width is tested first, so that the product that follows can't wrap around. */
    private static boolean areWindows(int width, int slide) {
        return isWithin(width, 1, SETTING_LIMIT)
                && isWithin(slide, 1, width)
                && width <= WINDOWS_LIMIT * slide;
    }

    /** Answers how many pairs the event makes, or why it is refused; a late one is counted. */
    private int admit(Events others, int time, int key) {
        if (!isTime(time)) {
            return BAD;
        }
        if (time < mark() - lateness) {
            lateEvents++;
            return LATE;
        }
        if (ofA.size() + ofB.size() >= room) {
            return FULL;
        }
        int pairs = others.manyNear(time, key, span);
        return queue.size() + pairs > line ? FULL : pairs;
    }

    private void countTaken(int pairs) {
        pairsTold += pairs;
        eventsTaken++;
    }

    /** No window of an event that is not late is over, so all of them take it. */
    private void gather(int time, int key, int value) {
        Group group = groups.head();
        int begin = beginningAbove(time - width);
        for (int n = 0; n < WINDOWS_LIMIT && begin <= time; n++) {
            group = groups.placeFrom(group, begin + width, key);
            group.gather(value);
            begin += slide;
        }
    }

    private int beginningAbove(int time) {
        return slide < 1 ? time : (Math.floorDiv(time, slide) + 1) * slide;
    }

    private static int refusalOfMark(int time, int markNow) {
        if (!isTime(time)) {
            return BAD;
        }
        return time <= markNow ? STALE : 0;
    }

    /** Answers how many windows the new mark ends, or FULL with nothing done. */
    private int tellWindows(int newMark) {
        int lastEnd = newMark - lateness;
        int records = groups.manyUpTo(lastEnd);
        if (queue.size() + records > line) {
            return FULL;
        }
        int windows = groups.windowsUpTo(lastEnd);
        for (int n = 0; n < records; n++) {
            Group group = groups.takeFirst();
            if (group != null) {
                queue.add(OF_WINDOW, group.end, group.key, group.sum, group.many, group.greatest);
            }
        }
        groupsTold += records;
        return windows;
    }

    /** An event of A has a window that is not over if the first such window begins not above it. */
    private void dropEvents() {
        int lastEnd = mark() - lateness;
        ofA.dropBelow(Math.min(lastEnd - span, beginningAbove(lastEnd - width)));
        ofB.dropBelow(lastEnd - span);
    }

    /** The kept events of one stream, in the order in which they came. */
    private static final class Events {
        private final int[] times = new int[ROOM_LIMIT];
        private final int[] keys = new int[ROOM_LIMIT];
        private final int[] values = new int[ROOM_LIMIT];
        private int size = 0;

        void clear() {
            size = 0;
        }

        int size() {
            return size;
        }

        int time(int i) {
            return has(i) ? times[i] : 0;
        }

        int key(int i) {
            return has(i) ? keys[i] : 0;
        }

        int value(int i) {
            return has(i) ? values[i] : 0;
        }

        void add(int time, int key, int value) {
            if (size >= ROOM_LIMIT) {
                return;
            }
            times[size] = time;
            keys[size] = key;
            values[size] = value;
            size++;
        }

        /** Two times are at most 2000000000 apart, so their difference can't wrap around. */
        boolean isNear(int i, int time, int key, int span) {
            return has(i) && keys[i] == key && Math.abs(times[i] - time) <= span;
        }

        int manyNear(int time, int key, int span) {
            int many = 0;
            for (int i = 0; i < size; i++) {
                if (isNear(i, time, key, span)) {
                    many++;
                }
            }
            return many;
        }

        void dropBelow(int leastTime) {
            int came = size;
            size = 0;
            for (int i = 0; i < came; i++) {
                if (times[i] >= leastTime) {
                    add(times[i], keys[i], values[i]);
                }
            }
        }

        private boolean has(int i) {
            return 0 <= i && i < size;
        }
    }

    /** The events of A in one window that have one key, as they are told of together. */
    private static final class Group {
        private final int end;
        private final int key;
        private int sum = 0;
        private int many = 0;
        private int greatest = Integer.MIN_VALUE;
        private Group next;

        Group(int end, int key, Group next) {
            this.end = end;
            this.key = key;
            this.next = next;
        }

        void gather(int value) {
            sum += value;
            many++;
            greatest = Math.max(greatest, value);
        }

        boolean isBefore(int otherEnd, int otherKey) {
            return end < otherEnd || end == otherEnd && key < otherKey;
        }

        boolean isOf(int otherEnd, int otherKey) {
            return end == otherEnd && key == otherKey;
        }
    }

    /**
     * The groups of the windows that are not over, in a chain by end, then by
     * key: in the order of telling, so that a mark only takes them off its front.
     */
    private static final class Groups {
        /** Stands before all groups and is none, so that each group has one before it; no window ends so early. */
        private final Group head = new Group(Integer.MIN_VALUE, Integer.MIN_VALUE, null);

        void clear() {
            head.next = null;
        }

        Group head() {
            return head;
        }

        Group find(int end, int key) {
            Group group = lastBefore(head, end, key).next;
            return group != null && group.isOf(end, key) ? group : null;
        }

        /** Begins at a group that stands before the one sought, to pass over the chain but once an event. */
        Group placeFrom(Group start, int end, int key) {
            Group before = lastBefore(start, end, key);
            Group group = before.next;
            if (group == null || !group.isOf(end, key)) {
                group = new Group(end, key, group);
                before.next = group;
            }
            return group;
        }

        int manyUpTo(int lastEnd) {
            int many = 0;
            for (Group g = head.next; g != null && g.end <= lastEnd; g = g.next) {
                many++;
            }
            return many;
        }

        int windowsUpTo(int lastEnd) {
            int windows = 0;
            Group before = head;
            for (Group g = head.next; g != null && g.end <= lastEnd; g = g.next) {
                if (before.end != g.end) {
                    windows++;
                }
                before = g;
            }
            return windows;
        }

        Group takeFirst() {
            Group group = head.next;
            if (group != null) {
                head.next = group.next;
            }
            return group;
        }

        private static Group lastBefore(Group start, int end, int key) {
            Group before = start;
            while (before.next != null && before.next.isBefore(end, key)) {
                before = before.next;
            }
            return before;
        }
    }

    /** The queue: a ring of rows, each a kind and five numbers. */
    private static final class Line {
        private static final int CELLS = 6;

        private final int[] cells = new int[LINE_LIMIT * CELLS];
        private int first = 0;
        private int size = 0;

        void clear() {
            first = 0;
            size = 0;
        }

        int size() {
            return size;
        }

        int cell(int i, int k) {
            boolean has = isWithin(i, 0, size - 1) && isWithin(k, 0, CELLS - 1);
            return has ? cells[rowOf(i) + k] : 0;
        }

        void add(int kind, int f0, int f1, int f2, int f3, int f4) {
            if (size >= LINE_LIMIT) {
                return;
            }
            int row = rowOf(size);
            cells[row] = kind;
            cells[row + 1] = f0;
            cells[row + 2] = f1;
            cells[row + 3] = f2;
            cells[row + 4] = f3;
            cells[row + 5] = f4;
            size++;
        }

        boolean dropFirst() {
            if (size == 0) {
                return false;
            }
            first = (first + 1) % LINE_LIMIT;
            size--;
            return true;
        }

        private int rowOf(int i) {
            return (first + i) % LINE_LIMIT * CELLS;
        }
    }
}
