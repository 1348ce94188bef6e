/**
 * One new object in a test, and its calls: each gives an Answer, which is held
 * against what is due. A run that goes beyond the document's 512 calls fails.
 */
final class Run {
    static final int BAD = -2, FULL = -3, LATE = -4, STALE = -5;
    static final int FIRST_MARK = -2000000000;
    static final int LEAST_TIME = -1000000000, GREATEST_TIME = 1000000000;
    static final int LEAST = Integer.MIN_VALUE, MOST = Integer.MAX_VALUE;

    private static final int CALLS = 512;
    private static final int[] ENDS_LOOKED_AT = {10, 20, 30};

    private final StreamQuery query = new StreamQuery();
    private int calls = 0;

    static Run with(int width, int slide, int lateness, int span, int room, int line) {
        Run run = new Run();
        run.set(width, slide, lateness, span, room, line).is(0);
        return run;
    }

    /**
     * A run in which something of all sorts has happened: three records wait (of
     * 5), two events of A and one of B are kept (of 6), THE MARK is 10, A's is 14.
     */
    static Run busy() {
        Run run = with(10, 10, 0, 2, 6, 5);
        run.eventA(3, 1, 100).is(0);
        run.eventB(4, 1, 200).is(1);
        run.bothMarks(10).is(1);
        run.eventA(9, 1, 0).is(LATE);
        run.eventA(12, 1, 5).is(0);
        run.eventA(15, 2, 6).is(0);
        run.eventB(13, 1, 7).is(1);
        run.markA(14).is(0);
        return run;
    }

    Answer set(int width, int slide, int lateness, int span, int room, int line) {
        return answer(query.set(width, slide, lateness, span, room, line),
                "set", width, slide, lateness, span, room, line);
    }

    Answer eventA(int time, int key, int value) {
        return answer(query.eventA(time, key, value), "eventA", time, key, value);
    }

    Answer eventB(int time, int key, int value) {
        return answer(query.eventB(time, key, value), "eventB", time, key, value);
    }

    Answer markA(int time) {
        return answer(query.markA(time), "markA", time);
    }

    Answer markB(int time) {
        return answer(query.markB(time), "markB", time);
    }

    /** Moves A's mark ahead, which tells nothing, then B's: the answer is that of B's, which moves THE MARK. */
    Answer bothMarks(int time) {
        markA(time).is(0);
        return markB(time);
    }

    Answer mark() {
        return answer(query.mark(), "mark");
    }

    Answer available() {
        return answer(query.available(), "available");
    }

    Answer kind(int i) {
        return answer(query.kind(i), "kind", i);
    }

    Answer field(int i, int k) {
        return answer(query.field(i, k), "field", i, k);
    }

    Answer pop() {
        return answer(query.pop() ? 1 : 0, "pop");
    }

    Answer look(int end, int key, int what) {
        return answer(query.look(end, key, what), "look", end, key, what);
    }

    Answer event(int stream, int i, int what) {
        return answer(query.event(stream, i, what), "event", stream, i, what);
    }

    Answer count(int what) {
        return answer(query.count(what), "count", what);
    }

    void pops(int many) {
        for (int n = 0; n < many; n++) {
            pop().is(1);
        }
    }

    void countsAre(int... due) {
        for (int what = 0; what < due.length; what++) {
            count(what).is(due[what]);
        }
    }

    /** The record's kind, then its five numbers. */
    void recordIs(int i, int... due) {
        kind(i).is(due[0]);
        for (int k = 0; k < 5; k++) {
            field(i, k).is(due[k + 1]);
        }
    }

    void noRecord(int i) {
        recordIs(i, 0, 0, 0, 0, 0, 0);
    }

    /** The event's time, key and value. */
    void eventIs(int stream, int i, int... due) {
        for (int what = 0; what < 3; what++) {
            event(stream, i, what).is(due[what]);
        }
    }

    void noEvent(int stream, int i) {
        eventIs(stream, i, 0, 0, 0);
    }

    /** The sum, how many, and the greatest. */
    void lookIs(int end, int key, int... due) {
        for (int what = 0; what < 3; what++) {
            look(end, key, what).is(due[what]);
        }
    }

    void noLook(int end, int key) {
        lookIs(end, key, 0, 0, 0);
    }

    /** All that can be read, to show that a refused call has changed nothing; windows only if they end at 10, 20 or 30. */
    String state() {
        StringBuilder text = new StringBuilder();
        text.append("mark ").append(mark().got).append(" counts");
        for (int what = 0; what <= 8; what++) {
            text.append(' ').append(count(what).got);
        }
        addRecords(text);
        addEvents(text, 0);
        addEvents(text, 1);
        addLooks(text);
        return text.toString();
    }

    void stateIs(String due) {
        String got = state();
        if (!got.equals(due)) {
            throw new AssertionError("the state is [" + got + "], due is [" + due + "]");
        }
    }

    private void addRecords(StringBuilder text) {
        int many = available().got;
        for (int i = 0; i < many; i++) {
            text.append(" record ").append(kind(i).got);
            for (int k = 0; k < 5; k++) {
                text.append(' ').append(field(i, k).got);
            }
        }
    }

    private void addEvents(StringBuilder text, int stream) {
        int many = count(stream).got;
        for (int i = 0; i < many; i++) {
            text.append(stream == 0 ? " A" : " B");
            for (int what = 0; what < 3; what++) {
                text.append(' ').append(event(stream, i, what).got);
            }
        }
    }

    private void addLooks(StringBuilder text) {
        int many = count(0).got;
        for (int i = 0; i < many; i++) {
            int key = event(0, i, 1).got;
            for (int end : ENDS_LOOKED_AT) {
                text.append(" look");
                for (int what = 0; what < 3; what++) {
                    text.append(' ').append(look(end, key, what).got);
                }
            }
        }
    }

    private Answer answer(int got, String name, int... arguments) {
        StringBuilder call = new StringBuilder(name).append('(');
        for (int n = 0; n < arguments.length; n++) {
            call.append(n == 0 ? "" : ", ").append(arguments[n]);
        }
        calls++;
        if (calls > CALLS) {
            throw new AssertionError("the run is longer than " + CALLS + " calls");
        }
        return new Answer("call " + calls + ", " + call.append(')'), got);
    }

    /** What a call answered; a boolean is 1 or 0. */
    static final class Answer {
        private final String call;
        private final int got;

        Answer(String call, int got) {
            this.call = call;
            this.got = got;
        }

        void is(int due) {
            if (got != due) {
                throw new AssertionError(call + " answered " + got + ", due is " + due);
            }
        }
    }
}
