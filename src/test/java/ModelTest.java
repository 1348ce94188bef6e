import java.util.ArrayList;
import java.util.List;
import java.util.Map;
import java.util.TreeMap;

/**
 * Holds the class against a plain model over many runs of 512 calls. The model
 * keeps every event ever taken and works all out anew from the document's words.
 */
public final class ModelTest {
    private static final int RUNS = 3000;
    private static final int CALLS = 512;
    private static final int BAD = -2, FULL = -3, LATE = -4, STALE = -5;

    private static long seed = 20261115;

    public static void main(String[] args) {
        int wrong = 0;
        long[] seen = new long[6];
        for (int run = 0; run < RUNS && wrong < 10; run++) {
            wrong += differs(run, seen) ? 1 : 0;
        }
        // Runs that never come to a refusal or to a record would test nothing.
        for (int i = 0; i < seen.length; i++) {
            if (seen[i] < 1000) {
                System.out.println("too few answers of sort " + i + ": " + seen[i]);
                wrong++;
            }
        }
        System.out.println(wrong == 0 ? RUNS + " runs are as the model" : wrong + " runs are not as the model");
        if (wrong != 0) {
            System.exit(1);
        }
    }

    private static boolean differs(int run, long[] seen) {
        StreamQuery query = new StreamQuery();
        Model model = new Model();
        Caller caller = new Caller(run % 5);
        for (int n = 0; n < CALLS; n++) {
            int[] call = caller.next(model, n);
            int got = answer(query, call);
            int want = model.answer(call);
            if (got != want) {
                System.out.println("run " + run + ", call " + n + ": " + java.util.Arrays.toString(call)
                        + " answered " + got + ", due is " + want);
                return true;
            }
            if (call[0] >= 1 && call[0] <= 4) {
                seen[want < -1 ? -want : want > 0 ? 1 : 0]++;
            }
        }
        return false;
    }

    private static int answer(StreamQuery q, int[] c) {
        switch (c[0]) {
            case 0: return q.set(c[1], c[2], c[3], c[4], c[5], c[6]);
            case 1: return q.eventA(c[1], c[2], c[3]);
            case 2: return q.eventB(c[1], c[2], c[3]);
            case 3: return q.markA(c[1]);
            case 4: return q.markB(c[1]);
            case 5: return q.mark();
            case 6: return q.available();
            case 7: return q.kind(c[1]);
            case 8: return q.field(c[1], c[2]);
            case 9: return q.pop() ? 1 : 0;
            case 10: return q.look(c[1], c[2], c[3]);
            case 11: return q.event(c[1], c[2], c[3]);
            default: return q.count(c[1]);
        }
    }

    private static int upTo(int least, int most) {
        seed = seed * 6364136223846793005L + 1442695040888963407L;
        return (int) (least + (seed >>> 33) % ((long) most - least + 1));
    }

    private static boolean oneIn(int n) {
        return upTo(1, n) == 1;
    }

    /** Chooses calls: times go slowly up about a clock of its own, and now and then lie anywhere. */
    private static final class Caller {
        private final int mood;
        private int now;

        Caller(int mood) {
            this.mood = mood;
            now = mood == 3 ? -1000000000 : mood == 4 ? 999999900 : upTo(-60, 20);
        }

        int[] next(Model m, int n) {
            if (n == 0 && !oneIn(10) || oneIn(300)) {
                return settings();
            }
            now += oneIn(6) ? upTo(0, (int) Math.max(1, m.width / 3)) : 0;
            int sort = upTo(0, 99);
            if (sort < 22) {
                return new int[] {1, time(m), key(), value()};
            } else if (sort < 40) {
                return new int[] {2, time(m), key(), value()};
            } else if (sort < 52) {
                return new int[] {oneIn(2) ? 3 : 4, markTime(m)};
            } else if (sort < 60) {
                return new int[] {9};
            }
            return reading(m);
        }

        private int[] reading(Model m) {
            int size = m.queue.size();
            switch (upTo(5, 12)) {
                case 5: return new int[] {5};
                case 6: return new int[] {6};
                case 7: return new int[] {7, upTo(-1, size)};
                case 8: case 9: return new int[] {8, upTo(-1, size), upTo(-1, 5)};
                case 10: return new int[] {10, end(m), key(), upTo(-1, 3)};
                case 11: return new int[] {11, upTo(-1, 2), upTo(-1, 12), upTo(-1, 3)};
                default: return new int[] {12, upTo(-1, 9)};
            }
        }

        private int[] settings() {
            int slide = mood == 2 ? upTo(1, 62500) : upTo(1, 6);
            int width = Math.max(slide, Math.min(1000000, slide * upTo(1, 16) + upTo(-2, 1)));
            int reach = mood == 2 ? 1000000 : 12;
            int room = mood == 1 ? upTo(1, 8) : upTo(1, 200);
            int line = mood == 1 ? upTo(1, 12) : upTo(1, 400);
            int[] call = {0, width, slide, upTo(0, reach), upTo(0, reach), room, line};
            if (oneIn(8)) {
                int[] ends = {-1, 0, 1000000, 1000001, 200, 201, 400, 401, Integer.MAX_VALUE, Integer.MIN_VALUE};
                call[upTo(1, 6)] = ends[upTo(0, ends.length - 1)];
            }
            return call;
        }

        private int time(Model m) {
            if (oneIn(40)) {
                int[] ends = {-1000000000, 1000000000, -1000000001, 1000000001, Integer.MIN_VALUE, Integer.MAX_VALUE};
                return ends[upTo(0, ends.length - 1)];
            }
            int reach = (int) (m.width + m.lateness);
            return now + upTo(-reach, reach);
        }

        private int markTime(Model m) {
            if (oneIn(100)) {
                return time(m);
            }
            return now + upTo(-6, 6);
        }

        private int end(Model m) {
            if (m.taken.isEmpty() || oneIn(10)) {
                return upTo(Integer.MIN_VALUE, Integer.MAX_VALUE);
            }
            Event event = m.taken.get(upTo(0, m.taken.size() - 1));
            long begin = Math.floorDiv(event.time, m.slide) * m.slide - m.slide * upTo(-1, 16);
            return (int) (begin + m.width + (oneIn(5) ? upTo(-1, 1) : 0));
        }

        private int key() {
            return oneIn(30) ? (oneIn(2) ? Integer.MIN_VALUE : Integer.MAX_VALUE) : upTo(-1, 2);
        }

        private int value() {
            return oneIn(4) ? upTo(Integer.MIN_VALUE, Integer.MAX_VALUE) : upTo(-9, 9);
        }
    }

    private static final class Event {
        final boolean ofA;
        final long time;
        final int key;
        final int value;

        Event(boolean ofA, long time, int key, int value) {
            this.ofA = ofA;
            this.time = time;
            this.key = key;
            this.value = value;
        }
    }

    private static final class Model {
        long width = 10, slide = 10, lateness = 0, span = 0;
        int room = 100, line = 200;
        List<Event> taken = new ArrayList<>();
        List<int[]> queue = new ArrayList<>();
        long[] marks = {-2000000000L, -2000000000L};
        int late = 0, pairs = 0, told = 0;

        int answer(int[] c) {
            switch (c[0]) {
                case 0: return settings(c);
                case 1: return event(true, c[1], c[2], c[3]);
                case 2: return event(false, c[1], c[2], c[3]);
                case 3: return moveMark(0, c[1]);
                case 4: return moveMark(1, c[1]);
                case 5: return (int) theMark();
                case 6: return queue.size();
                case 7: return number(c[1], 0);
                case 8: return c[2] < 0 || c[2] > 4 ? 0 : number(c[1], c[2] + 1);
                case 9: return pop();
                case 10: return look(c[1], c[2], c[3]);
                case 11: return part(c[1], c[2], c[3]);
                default: return count(c[1]);
            }
        }

        private int settings(int[] c) {
            long w = c[1], s = c[2];
            boolean good = w >= 1 && w <= 1000000 && s >= 1 && s <= w && w <= 16 * s
                    && c[3] >= 0 && c[3] <= 1000000 && c[4] >= 0 && c[4] <= 1000000
                    && c[5] >= 1 && c[5] <= 200 && c[6] >= 1 && c[6] <= 400;
            if (!good) {
                return BAD;
            }
            width = w;
            slide = s;
            lateness = c[3];
            span = c[4];
            room = c[5];
            line = c[6];
            taken = new ArrayList<>();
            queue = new ArrayList<>();
            marks = new long[] {-2000000000L, -2000000000L};
            late = 0;
            pairs = 0;
            told = 0;
            return 0;
        }

        private long theMark() {
            return Math.min(marks[0], marks[1]);
        }

        private List<Long> endsOf(Event e) {
            List<Long> ends = new ArrayList<>();
            for (long begin = Math.floorDiv(e.time, slide) * slide; begin + width > e.time; begin -= slide) {
                ends.add(0, begin + width);
            }
            return ends;
        }

        private boolean isOver(long end, long mark) {
            return end + lateness <= mark;
        }

        private boolean isKept(Event e) {
            if (e.time + span >= theMark() - lateness) {
                return true;
            }
            if (e.ofA) {
                for (long end : endsOf(e)) {
                    if (!isOver(end, theMark())) {
                        return true;
                    }
                }
            }
            return false;
        }

        private List<Event> kept(boolean ofA) {
            List<Event> kept = new ArrayList<>();
            for (Event e : taken) {
                if (e.ofA == ofA && isKept(e)) {
                    kept.add(e);
                }
            }
            return kept;
        }

        private int event(boolean ofA, int time, int key, int value) {
            if (time < -1000000000 || time > 1000000000) {
                return BAD;
            }
            if (time < theMark() - lateness) {
                late++;
                return LATE;
            }
            List<int[]> records = new ArrayList<>();
            for (Event e : kept(!ofA)) {
                if (e.key == key && Math.abs(e.time - time) <= span) {
                    int other = (int) e.time;
                    records.add(ofA ? new int[] {2, time, other, key, value, e.value}
                            : new int[] {2, other, time, key, e.value, value});
                }
            }
            if (kept(true).size() + kept(false).size() >= room || queue.size() + records.size() > line) {
                return FULL;
            }
            queue.addAll(records);
            pairs += records.size();
            taken.add(new Event(ofA, time, key, value));
            return records.size();
        }

        /** By window's end, then by key: sum, how many, greatest. */
        private TreeMap<Long, TreeMap<Integer, int[]>> windows(long from, long to) {
            TreeMap<Long, TreeMap<Integer, int[]>> windows = new TreeMap<>();
            for (Event e : taken) {
                if (!e.ofA) {
                    continue;
                }
                for (long end : endsOf(e)) {
                    if (isOver(end, from) || !isOver(end, to)) {
                        continue;
                    }
                    int[] sums = windows.computeIfAbsent(end, x -> new TreeMap<>())
                            .computeIfAbsent(e.key, x -> new int[] {0, 0, e.value});
                    sums[0] += e.value;
                    sums[1]++;
                    sums[2] = Math.max(sums[2], e.value);
                }
            }
            return windows;
        }

        private int moveMark(int which, int time) {
            if (time < -1000000000 || time > 1000000000) {
                return BAD;
            }
            if (time <= marks[which]) {
                return STALE;
            }
            TreeMap<Long, TreeMap<Integer, int[]>> over = windows(theMark(), Math.min(time, marks[1 - which]));
            List<int[]> records = new ArrayList<>();
            for (Map.Entry<Long, TreeMap<Integer, int[]>> window : over.entrySet()) {
                for (Map.Entry<Integer, int[]> group : window.getValue().entrySet()) {
                    int[] s = group.getValue();
                    records.add(new int[] {1, (int) (long) window.getKey(), group.getKey(), s[0], s[1], s[2]});
                }
            }
            if (queue.size() + records.size() > line) {
                return FULL;
            }
            queue.addAll(records);
            told += records.size();
            marks[which] = time;
            return over.size();
        }

        private int number(int i, int k) {
            return i < 0 || i >= queue.size() ? 0 : queue.get(i)[k];
        }

        private int pop() {
            if (queue.isEmpty()) {
                return 0;
            }
            queue.remove(0);
            return 1;
        }

        private int look(int end, int key, int what) {
            TreeMap<Integer, int[]> window = windows(theMark(), Long.MAX_VALUE).get((long) end);
            if (window == null || !window.containsKey(key) || what < 0 || what > 2) {
                return 0;
            }
            return window.get(key)[what];
        }

        private int part(int stream, int i, int what) {
            if (stream < 0 || stream > 1) {
                return 0;
            }
            List<Event> kept = kept(stream == 0);
            if (i < 0 || i >= kept.size()) {
                return 0;
            }
            Event e = kept.get(i);
            return what == 0 ? (int) e.time : what == 1 ? e.key : what == 2 ? e.value : 0;
        }

        private int count(int what) {
            switch (what) {
                case 0: return kept(true).size();
                case 1: return kept(false).size();
                case 2: return late;
                case 3: return (int) marks[0];
                case 4: return (int) marks[1];
                case 5: return windows(theMark(), Long.MAX_VALUE).size();
                case 6: return pairs;
                case 7: return told;
                case 8: return taken.size();
                default: return BAD;
            }
        }
    }
}
