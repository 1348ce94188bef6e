/** Runs by hand for each promise: ordinary inputs, the edges that the document names, wrong inputs. */
public final class PromisesTest {
    private static final int BAD = -2, FULL = -3, LATE = -4, STALE = -5;
    private static final int FIRST_MARK = -2000000000;
    private static final int LEAST = Integer.MIN_VALUE, MOST = Integer.MAX_VALUE;
    private static int wrong = 0;
    private static int checks = 0;
    private static String part = "";

    public static void main(String[] args) {
        newObject();
        settings();
        settingsBounds();
        startsAgain();
        eventOfA();
        eventOfB();
        eventRefusals();
        pairEdges();
        windowEdges();
        marks();
        markRefusals();
        markOrder();
        keptEdges();
        theMark();
        queueReading();
        queueAsRing();
        looking();
        eventReading();
        counting();
        extremes();
        System.out.println(wrong == 0 ? checks + " answers are as due" : wrong + " answers are not as due");
        if (wrong != 0) {
            System.exit(1);
        }
    }

    private static void due(String what, int got, int want) {
        checks++;
        if (got != want) {
            wrong++;
            System.out.println(part + ": " + what + " answered " + got + ", due is " + want);
        }
    }

    private static void due(String what, boolean got, boolean want) {
        due(what, got ? 1 : 0, want ? 1 : 0);
    }

    private static StreamQuery with(int width, int slide, int lateness, int span, int room, int line) {
        StreamQuery q = new StreamQuery();
        due("set", q.set(width, slide, lateness, span, room, line), 0);
        return q;
    }

    private static void bothMarks(StreamQuery q, int time, int windows) {
        due("markA(" + time + ")", q.markA(time), 0);
        due("markB(" + time + ")", q.markB(time), windows);
    }

    private static void record(StreamQuery q, int i, int... kindAndFields) {
        due("kind(" + i + ")", q.kind(i), kindAndFields[0]);
        for (int k = 0; k < 5; k++) {
            due("field(" + i + ", " + k + ")", q.field(i, k), kindAndFields[k + 1]);
        }
    }

    private static void counts(StreamQuery q, int... want) {
        for (int what = 0; what < want.length; what++) {
            due("count(" + what + ")", q.count(what), want[what]);
        }
    }

    private static void newObject() {
        part = "promise 1, a new object";
        StreamQuery q = new StreamQuery();
        counts(q, 0, 0, 0, FIRST_MARK, FIRST_MARK, 0, 0, 0, 0);
        due("mark", q.mark(), FIRST_MARK);
        due("available", q.available(), 0);
        due("pop", q.pop(), false);
        due("eventA", q.eventA(9, 1, 4), 0);
        due("one window, as slide is width", q.count(5), 1);
        due("look, as width is 10", q.look(10, 1, 0), 4);
        due("a pair as span is 0", q.eventB(9, 1, 5), 1);
        due("no pair as span is 0", q.eventB(8, 1, 5), 0);
        bothMarks(q, 9, 0);
        due("late, as lateness is 0", q.eventA(8, 1, 1), LATE);
        bothMarks(q, 10, 1);

        StreamQuery crowded = new StreamQuery();
        for (int i = 0; i < 100; i++) {
            due("room is 100", crowded.eventB(0, i, 0), 0);
        }
        due("room is 100", crowded.eventB(0, 0, 0), FULL);

        StreamQuery told = new StreamQuery();
        for (int i = 0; i < 20; i++) {
            told.eventB(0, 0, i);
        }
        told.eventB(0, 1, 0);
        for (int i = 0; i < 10; i++) {
            due("line is 200", told.eventA(0, 0, i), 20);
        }
        due("line is 200", told.eventA(0, 1, 0), FULL);
        due("line is 200", told.available(), 200);
    }

    private static void settings() {
        part = "promise 2, set";
        StreamQuery q = with(6, 3, 2, 1, 3, 2);
        due("eventA", q.eventA(3, 1, 5), 0);
        due("two windows", q.count(5), 2);
        due("look", q.look(6, 1, 0), 5);
        due("look", q.look(9, 1, 0), 5);
        due("span", q.eventB(4, 1, 0), 1);
        due("span", q.eventB(5, 1, 0), 0);
        due("room", q.eventB(5, 2, 0), FULL);
        bothMarks(q, 7, 0);
        due("lateness", q.markA(8), 0);
        due("lateness", q.markB(8), 1);
        due("available", q.available(), 2);
        due("line", q.markA(11), 0);
        due("line", q.markB(11), FULL);
    }

    private static void settingsBounds() {
        part = "promise 2, bounds";
        int[][] good = {
            {1, 1, 0, 0, 1, 1}, {1000000, 1000000, 1000000, 1000000, 200, 400}, {16, 1, 0, 0, 1, 1},
            {1000000, 62500, 0, 0, 1, 1}, {32, 2, 5, 5, 5, 5}, {31, 2, 5, 5, 5, 5}};
        int[][] bad = {
            {0, 1, 0, 0, 1, 1}, {0, 0, 0, 0, 1, 1}, {1000001, 1000000, 0, 0, 1, 1}, {1, 0, 0, 0, 1, 1},
            {1, 2, 0, 0, 1, 1}, {10, 11, 0, 0, 1, 1}, {17, 1, 0, 0, 1, 1}, {33, 2, 0, 0, 1, 1},
            {1000000, 62499, 0, 0, 1, 1}, {10, 10, -1, 0, 1, 1}, {10, 10, 1000001, 0, 1, 1},
            {10, 10, 0, -1, 1, 1}, {10, 10, 0, 1000001, 1, 1}, {10, 10, 0, 0, 0, 1},
            {10, 10, 0, 0, 201, 1}, {10, 10, 0, 0, 1, 0}, {10, 10, 0, 0, 1, 401},
            {10, -10, 0, 0, 1, 1}, {-10, -10, 0, 0, 1, 1}, {LEAST, LEAST, LEAST, LEAST, LEAST, LEAST},
            {MOST, MOST, 0, 0, 1, 1}, {10, LEAST, 0, 0, 1, 1}, {10, 10, MOST, 0, 1, 1}};
        StreamQuery q = new StreamQuery();
        for (int[] s : good) {
            due(java.util.Arrays.toString(s), q.set(s[0], s[1], s[2], s[3], s[4], s[5]), 0);
        }
        q = with(8, 4, 1, 2, 3, 9);
        q.eventA(5, 1, 7);
        q.eventB(6, 1, 8);
        q.markA(3);
        for (int[] s : bad) {
            due(java.util.Arrays.toString(s), q.set(s[0], s[1], s[2], s[3], s[4], s[5]), BAD);
        }
        counts(q, 1, 1, 0, 3, FIRST_MARK, 2, 1, 0, 2);
        record(q, 0, 2, 5, 6, 1, 7, 8);
        due("look", q.look(12, 1, 0), 7);
        due("room stays", q.eventA(100, 0, 0), 0);
        due("room stays", q.eventA(100, 0, 0), FULL);
    }

    private static void startsAgain() {
        part = "promise 2, all as at first";
        StreamQuery q = with(8, 4, 0, 2, 9, 9);
        q.eventA(5, 1, 7);
        q.eventA(50, 1, 7);
        q.eventB(6, 1, 8);
        bothMarks(q, 9, 1);
        due("late", q.eventA(8, 0, 0), LATE);
        due("eventB", q.eventB(60, 1, 8), 0);
        due("set", q.set(8, 4, 0, 2, 9, 9), 0);
        counts(q, 0, 0, 0, FIRST_MARK, FIRST_MARK, 0, 0, 0, 0);
        due("mark", q.mark(), FIRST_MARK);
        due("available", q.available(), 0);
        due("kind", q.kind(0), 0);
        due("field", q.field(0, 0), 0);
        due("pop", q.pop(), false);
        due("look", q.look(52, 1, 1), 0);
        due("event", q.event(0, 0, 0), 0);
        due("eventA", q.eventA(50, 1, 3), 0);
        due("sum begins again", q.look(52, 1, 0), 3);
        due("markA", q.markA(-1000000000), 0);
    }

    private static void eventOfA() {
        part = "promise 3, eventA";
        StreamQuery q = with(10, 10, 0, 5, 9, 9);
        q.eventB(12, 1, 100);
        q.eventB(8, 1, 200);
        q.eventB(10, 2, 300);
        q.eventB(16, 1, 400);
        q.eventB(10, 1, 500);
        due("three pairs", q.eventA(10, 1, -7), 3);
        due("available", q.available(), 3);
        record(q, 0, 2, 10, 12, 1, -7, 100);
        record(q, 1, 2, 10, 8, 1, -7, 200);
        record(q, 2, 2, 10, 10, 1, -7, 500);
        due("A does not pair with A", q.eventA(10, 2, 1), 1);
        record(q, 3, 2, 10, 10, 2, 1, 300);
        counts(q, 2, 5, 0, FIRST_MARK, FIRST_MARK, 1, 4, 0, 7);
    }

    private static void eventOfB() {
        part = "promise 4, eventB";
        StreamQuery q = with(10, 10, 0, 5, 9, 9);
        q.eventA(12, 1, 100);
        q.eventA(8, 1, 200);
        q.eventA(10, 2, 300);
        q.eventA(16, 1, 400);
        due("two pairs", q.eventB(10, 1, -7), 2);
        record(q, 0, 2, 12, 10, 1, 100, -7);
        record(q, 1, 2, 8, 10, 1, 200, -7);
        due("B does not pair with B", q.eventB(30, 1, 1), 0);
        due("B does not pair with B", q.eventB(30, 1, 1), 0);
        due("B is in no window", q.count(5), 2);
        due("B is in no window", q.look(40, 1, 1), 0);
        counts(q, 4, 3, 0, FIRST_MARK, FIRST_MARK, 2, 2, 0, 7);
    }

    private static void eventRefusals() {
        part = "promises 3 and 4, what is refused";
        int[] noTimes = {1000000001, -1000000001, LEAST, MOST, FIRST_MARK};
        StreamQuery q = with(10, 10, 3, 0, 1, 1);
        for (int time : noTimes) {
            due("eventA(" + time + ")", q.eventA(time, 0, 0), BAD);
            due("eventB(" + time + ")", q.eventB(time, 0, 0), BAD);
        }
        bothMarks(q, 20, 0);
        due("BAD before LATE", q.eventA(-1000000001, 0, 0), BAD);
        due("no late one", q.count(2), 0);
        due("on the edge", q.eventB(17, 0, 0), 0);
        due("LATE before FULL, A", q.eventA(16, 0, 0), LATE);
        due("LATE before FULL, B", q.eventB(16, 0, 0), LATE);
        due("FULL, A", q.eventA(17, 0, 0), FULL);
        due("FULL, B", q.eventB(17, 0, 0), FULL);
        counts(q, 0, 1, 2, 20, 20, 0, 0, 0, 1);

        q = with(10, 10, 0, 0, 9, 2);
        q.eventA(1, 1, 1);
        q.eventA(1, 1, 2);
        q.eventA(1, 1, 3);
        due("three pairs are more than line", q.eventB(1, 1, 1), FULL);
        counts(q, 3, 0, 0, FIRST_MARK, FIRST_MARK, 1, 0, 0, 3);
        due("available", q.available(), 0);
        q.eventB(2, 2, 1);
        q.eventB(2, 2, 2);
        due("just as many as line", q.eventA(2, 2, 1), 2);
        due("one more than line", q.eventB(2, 2, 3), FULL);
        due("no pair, so not FULL", q.eventB(2, 3, 1), 0);
        due("pop", q.pop(), true);
        due("one is as many as line again", q.eventB(2, 2, 3), 1);
        due("A is full in line", q.eventA(2, 3, 1), FULL);
        due("not gathered when FULL", q.look(10, 3, 1), 0);
    }

    private static void pairEdges() {
        part = "promises 3 and 4, pairs";
        StreamQuery q = with(10, 10, 0, 5, 99, 99);
        q.eventB(0, 7, 1);
        due("span apart", q.eventA(5, 7, 1), 1);
        due("span apart", q.eventA(-5, 7, 1), 1);
        due("more than span apart", q.eventA(6, 7, 1), 0);
        due("more than span apart", q.eventA(-6, 7, 1), 0);
        due("another key", q.eventA(0, -7, 1), 0);

        q = with(10, 10, 2, 5, 99, 99);
        q.eventB(5, 1, 1);
        q.eventB(6, 1, 2);
        bothMarks(q, 13, 0);
        due("only what is kept", q.count(1), 1);
        due("pair with an older one that is kept", q.eventA(11, 1, 3), 1);
        record(q, 0, 2, 11, 6, 1, 3, 2);
    }

    private static void windowEdges() {
        part = "promise 3, windows";
        StreamQuery q = with(10, 4, 0, 0, 99, 99);
        q.eventA(8, 1, 3);
        due("windows of 8", q.count(5), 3);
        due("0 .. 10", q.look(10, 1, 1), 1);
        due("4 .. 14", q.look(14, 1, 1), 1);
        due("8 .. 18", q.look(18, 1, 1), 1);
        due("-4 .. 6", q.look(6, 1, 1), 0);
        due("12 .. 22", q.look(22, 1, 1), 0);
        q.set(10, 4, 0, 0, 99, 99);
        q.eventA(-1, 1, 3);
        due("windows of -1", q.count(5), 2);
        due("-8 .. 2", q.look(2, 1, 1), 1);
        due("-4 .. 6", q.look(6, 1, 1), 1);
        due("-12 .. -2", q.look(-2, 1, 1), 0);
        due("0 .. 10", q.look(10, 1, 1), 0);
        q.set(5, 5, 0, 0, 99, 99);
        q.eventA(-5, 1, 3);
        due("a window takes its beginning", q.look(0, 1, 1), 1);
        due("and not its end", q.look(-5, 1, 1), 0);
    }

    private static void marks() {
        part = "promises 5 and 6, marks";
        StreamQuery q = with(10, 5, 2, 0, 99, 99);
        q.eventA(7, 3, 10);
        q.eventA(6, 3, 20);
        q.eventA(3, 3, -4);
        due("markB first tells nothing", q.markB(100), 0);
        due("markA, one below", q.markA(6), 0);
        due("available", q.available(), 0);
        due("markA, end and lateness just reached", q.markA(7), 1);
        record(q, 0, 1, 5, 3, -4, 1, -4);
        due("markA", q.markA(16), 1);
        record(q, 1, 1, 10, 3, 26, 3, 20);
        due("markA", q.markA(17), 1);
        record(q, 2, 1, 15, 3, 30, 2, 20);
        counts(q, 0, 0, 0, 17, 100, 0, 0, 3, 3);
        due("nothing more", q.markA(1000), 0);
        due("available", q.available(), 3);

        q = with(10, 10, 0, 0, 99, 99);
        q.eventA(1, 1, LEAST);
        q.eventA(1, 1, -1);
        q.eventB(1, 1, 0);
        due("available", q.available(), 2);
        bothMarks(q, 50, 1);
        record(q, 2, 1, 10, 1, MOST, 2, -1);
    }

    private static void markRefusals() {
        part = "promises 5 and 6, what is refused";
        StreamQuery q = with(10, 10, 0, 0, 9, 2);
        int[] noTimes = {1000000001, -1000000001, LEAST, MOST, FIRST_MARK};
        for (int time : noTimes) {
            due("markA(" + time + ")", q.markA(time), BAD);
            due("markB(" + time + ")", q.markB(time), BAD);
        }
        due("the least time", q.markA(-1000000000), 0);
        due("STALE", q.markA(-1000000000), STALE);
        due("markB has its own", q.markB(-1000000000), 0);
        due("STALE", q.markB(-1000000000), STALE);
        due("markA", q.markA(5), 0);
        due("STALE below", q.markA(4), STALE);
        due("BAD before STALE", q.markA(-1000000001), BAD);
        q.eventA(15, 1, 1);
        q.eventA(15, 2, 1);
        q.eventA(15, 3, 1);
        due("markA", q.markA(20), 0);
        due("three are more than line", q.markB(20), FULL);
        counts(q, 3, 0, 0, 20, -1000000000, 1, 0, 0, 3);
        due("mark", q.mark(), -1000000000);
        due("available", q.available(), 0);
        due("look", q.look(20, 2, 1), 1);
        due("STALE before FULL", q.markB(-1000000000), STALE);
        due("not so far is fine", q.markB(19), 0);
        due("FULL again", q.markB(30), FULL);
        due("FULL again, what is stale is as it was", q.markB(20), FULL);

        q = with(10, 10, 0, 0, 9, 2);
        q.eventA(15, 1, 1);
        q.eventA(15, 2, 1);
        due("markB", q.markB(20), 0);
        due("just as many as line", q.markA(20), 1);
        q.eventA(25, 1, 1);
        due("markB", q.markB(30), 0);
        due("FULL, by A", q.markA(30), FULL);
        due("the mark stays", q.count(3), 20);
        due("pop", q.pop(), true);
        due("now", q.markA(30), 1);
        record(q, 1, 1, 30, 1, 1, 1, 1);
    }

    private static void markOrder() {
        part = "promises 5 and 6, order";
        StreamQuery q = with(4, 2, 0, 0, 99, 99);
        q.eventA(5, MOST, 1);
        q.eventA(5, 0, 2);
        q.eventA(1, 3, 3);
        q.eventA(5, LEAST, 4);
        q.eventA(3, -1, 5);
        q.eventA(5, 0, 6);
        bothMarks(q, 100, 4);
        due("available", q.available(), 10);
        record(q, 0, 1, 2, 3, 3, 1, 3);
        record(q, 1, 1, 4, -1, 5, 1, 5);
        record(q, 2, 1, 4, 3, 3, 1, 3);
        record(q, 3, 1, 6, LEAST, 4, 1, 4);
        record(q, 4, 1, 6, -1, 5, 1, 5);
        record(q, 5, 1, 6, 0, 8, 2, 6);
        record(q, 6, 1, 6, MOST, 1, 1, 1);
        record(q, 7, 1, 8, LEAST, 4, 1, 4);
        record(q, 8, 1, 8, 0, 8, 2, 6);
        record(q, 9, 1, 8, MOST, 1, 1, 1);
        counts(q, 0, 0, 0, 100, 100, 0, 0, 10, 6);
    }

    private static void keptEdges() {
        part = "promises 5 and 6, what is kept";
        StreamQuery q = with(4, 4, 3, 6, 99, 99);
        q.eventA(0, 1, 1);
        q.eventB(0, 2, 1);
        bothMarks(q, 9, 1);
        counts(q, 1, 1, 0, 9, 9, 0, 0, 1, 2);
        due("what is over can't be looked at", q.look(4, 1, 1), 0);
        bothMarks(q, 10, 0);
        counts(q, 0, 0, 0, 10, 10, 0, 0, 1, 2);

        q = with(20, 10, 0, 1, 99, 99);
        q.eventA(12, 1, 1);
        q.eventA(9, 1, 1);
        q.eventB(12, 2, 1);
        bothMarks(q, 13, 1);
        counts(q, 2, 1);
        bothMarks(q, 14, 0);
        counts(q, 2, 0);
        bothMarks(q, 20, 1);
        counts(q, 1, 0);
        due("the other went", q.event(0, 0, 0), 12);
        bothMarks(q, 29, 0);
        counts(q, 1, 0);
        bothMarks(q, 30, 1);
        counts(q, 0, 0, 0, 30, 30, 0, 0, 3, 3);

        q = with(10, 10, 0, 0, 2, 9);
        q.eventA(1, 1, 1);
        q.eventB(1, 2, 1);
        due("FULL", q.eventA(30, 1, 1), FULL);
        bothMarks(q, 2, 0);
        due("room again", q.eventA(30, 1, 1), 0);
    }

    private static void theMark() {
        part = "promise 7, mark";
        StreamQuery q = new StreamQuery();
        due("mark", q.mark(), FIRST_MARK);
        q.markA(5);
        due("mark", q.mark(), FIRST_MARK);
        q.markB(-8);
        due("mark", q.mark(), -8);
        q.markB(7);
        due("mark", q.mark(), 5);
        q.markA(6);
        due("mark", q.mark(), 6);
        q.markA(1000000000);
        due("mark", q.mark(), 7);
        q.markB(1000000000);
        due("mark", q.mark(), 1000000000);
    }

    private static void queueReading() {
        part = "promises 8 to 11, the queue";
        StreamQuery q = with(10, 10, 0, 0, 9, 9);
        due("available", q.available(), 0);
        q.eventA(1, 4, 5);
        q.eventB(1, 4, 6);
        bothMarks(q, 10, 1);
        due("available", q.available(), 2);
        record(q, 0, 2, 1, 1, 4, 5, 6);
        record(q, 1, 1, 10, 4, 5, 1, 5);
        int[] none = {-1, 2, 9, 400, LEAST, MOST};
        for (int i : none) {
            due("kind(" + i + ")", q.kind(i), 0);
            due("field(" + i + ", 0)", q.field(i, 0), 0);
        }
        int[] noFields = {-1, 5, 6, LEAST, MOST};
        for (int k : noFields) {
            due("field(0, " + k + ")", q.field(0, k), 0);
            due("field(1, " + k + ")", q.field(1, k), 0);
        }
        due("pop", q.pop(), true);
        due("available", q.available(), 1);
        record(q, 0, 1, 10, 4, 5, 1, 5);
        record(q, 1, 0, 0, 0, 0, 0, 0);
        due("pop", q.pop(), true);
        due("pop", q.pop(), false);
        due("available", q.available(), 0);
        due("told stays counted", q.count(6), 1);
        due("told stays counted", q.count(7), 1);
    }

    private static void queueAsRing() {
        part = "promises 8 to 11, a queue of 400";
        StreamQuery q = with(10, 10, 0, 0, 200, 400);
        for (int i = 0; i < 40; i++) {
            q.eventB(0, 0, i);
        }
        for (int i = 0; i < 10; i++) {
            due("eventA", q.eventA(0, 0, i), 40);
        }
        due("line", q.eventA(0, 0, 10), FULL);
        for (int i = 0; i < 39; i++) {
            due("pop", q.pop(), true);
        }
        due("line", q.eventA(0, 0, 10), FULL);
        due("pop", q.pop(), true);
        due("as many as line", q.eventA(0, 0, 10), 40);
        due("available", q.available(), 400);
        record(q, 0, 2, 0, 0, 0, 1, 0);
        record(q, 359, 2, 0, 0, 0, 9, 39);
        record(q, 360, 2, 0, 0, 0, 10, 0);
        record(q, 399, 2, 0, 0, 0, 10, 39);
        record(q, 400, 0, 0, 0, 0, 0, 0);
        due("told", q.count(6), 440);
    }

    private static void looking() {
        part = "promise 12, look";
        StreamQuery q = with(10, 5, 2, 0, 99, 99);
        q.eventA(7, 1, MOST);
        q.eventA(8, 1, 2);
        q.eventA(8, 2, -9);
        q.eventA(3, 1, -1);
        due("sum wraps", q.look(15, 1, 0), LEAST + 1);
        due("how many", q.look(15, 1, 1), 2);
        due("greatest", q.look(15, 1, 2), MOST);
        due("sum", q.look(10, 1, 0), LEAST);
        due("how many", q.look(10, 1, 1), 3);
        due("a greatest below 0", q.look(10, 2, 2), -9);
        due("a sum below 0", q.look(10, 2, 0), -9);
        due("another key", q.look(10, 3, 1), 0);
        due("no greatest", q.look(10, 3, 2), 0);
        due("without events", q.look(20, 1, 1), 0);
        due("no window ends so", q.look(11, 1, 1), 0);
        due("no window ends so", q.look(MOST, 1, 1), 0);
        due("no window ends so", q.look(LEAST, 1, 1), 0);
        due("no window ends so, with the least key", q.look(LEAST, LEAST, 2), 0);
        int[] others = {-1, 3, LEAST, MOST};
        for (int what : others) {
            due("what = " + what, q.look(10, 1, what), 0);
        }
        bothMarks(q, 11, 1);
        due("not over", q.look(10, 1, 1), 3);
        due("over", q.look(5, 1, 1), 0);
        bothMarks(q, 12, 1);
        due("over", q.look(10, 1, 1), 0);
        due("not over", q.look(15, 1, 1), 2);
        q.eventA(13, 1, 1);
        due("as they are now", q.look(15, 1, 1), 3);
    }

    private static void eventReading() {
        part = "promise 13, event";
        StreamQuery q = with(10, 10, 0, 0, 9, 9);
        q.eventA(31, 4, 5);
        q.eventA(2, -6, -7);
        q.eventA(33, 8, 9);
        q.eventB(41, 14, 15);
        int[][] ofA = {{31, 4, 5}, {2, -6, -7}, {33, 8, 9}, {0, 0, 0}};
        for (int i = 0; i < ofA.length; i++) {
            for (int what = 0; what < 3; what++) {
                due("event(0, " + i + ", " + what + ")", q.event(0, i, what), ofA[i][what]);
            }
        }
        due("event of B", q.event(1, 0, 0), 41);
        due("event of B", q.event(1, 0, 1), 14);
        due("event of B", q.event(1, 0, 2), 15);
        due("event of B", q.event(1, 1, 0), 0);
        int[] none = {-1, 3, 200, LEAST, MOST};
        for (int n : none) {
            due("i = " + n, q.event(0, n, 0), 0);
            due("i = " + n, q.event(1, n, 0), 0);
            due("what = " + n, q.event(0, 0, n), 0);
            due("stream = " + n, q.event(n, 0, 0), 0);
        }
        due("stream = 2", q.event(2, 0, 0), 0);
        bothMarks(q, 10, 1);
        due("one went", q.event(0, 1, 0), 33);
        due("one went", q.event(0, 1, 2), 9);
        due("one went", q.event(0, 2, 0), 0);
    }

    private static void counting() {
        part = "promise 14, count";
        StreamQuery q = with(4, 2, 1, 1, 9, 9);
        q.eventA(3, 1, 1);
        q.eventA(4, 1, 1);
        q.eventA(30, 1, 1);
        q.eventB(4, 1, 1);
        q.eventB(5, 5, 1);
        counts(q, 3, 2, 0, FIRST_MARK, FIRST_MARK, 5, 2, 0, 5);
        q.markA(8);
        q.markB(7);
        q.eventA(5, 0, 0);
        q.eventB(5, 0, 0);
        q.eventB(-5, 0, 0);
        counts(q, 2, 1, 3, 8, 7, 3, 2, 2, 5);
        q.pop();
        counts(q, 2, 1, 3, 8, 7, 3, 2, 2, 5);
        int[] others = {-1, 9, 10, LEAST, MOST};
        for (int what : others) {
            due("count(" + what + ")", q.count(what), BAD);
        }
    }

    private static void extremes() {
        part = "the ends of the numbers";
        StreamQuery q = with(1000000, 62500, 1000000, 1000000, 200, 400);
        due("eventA", q.eventA(-1000000000, LEAST, LEAST), 0);
        due("eventA", q.eventA(1000000000, LEAST, LEAST), 0);
        due("eventB", q.eventB(-999000000, LEAST, MOST), 1);
        due("eventB", q.eventB(999000000, LEAST, MOST), 1);
        due("not near", q.eventB(998999999, LEAST, MOST), 0);
        due("windows", q.count(5), 32);
        due("the last window", q.look(1001000000, LEAST, 0), LEAST);
        due("the first window", q.look(-999937500, LEAST, 2), LEAST);
        bothMarks(q, -1000000000, 0);
        bothMarks(q, 1000000000, 16);
        counts(q, 1, 2, 0, 1000000000, 1000000000, 16, 2, 16, 5);
        due("late", q.eventA(998999999, 0, 0), LATE);
        due("not late", q.eventA(999000000, 0, 0), 0);

        q = with(16, 1, 0, 0, 200, 400);
        for (int i = 0; i < 200; i++) {
            due("eventA", q.eventA(i * 16, i, i), 0);
        }
        due("room", q.eventA(0, 0, 0), FULL);
        due("as many windows as there can be", q.count(5), 3200);
        due("markA", q.markA(1000000000), 0);
        due("line", q.markB(1000000000), FULL);
        due("line", q.markB(402), FULL);
        due("as many as line", q.markB(400), 400);
        due("windows", q.count(5), 2800);
        record(q, 399, 1, 400, 24, 24, 1, 24);
    }
}
