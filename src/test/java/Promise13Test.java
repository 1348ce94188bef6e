/** Promise 13, event: "0: there is none", of the streams, the events and their numbers. */
final class Promise13Test {
    public static void main(String[] args) throws Exception {
        Sentences.testAll(Promise13Test.class);
    }

    private static Run withThreeEach() {
        Run q = Run.with(10, 10, 0, 0, 9, 9);
        q.eventA(31, 4, 5).is(0);
        q.eventA(2, -6, -7).is(0);
        q.eventA(33, 8, 9).is(0);
        q.eventB(41, 14, 15).is(0);
        q.eventB(3, -16, -17).is(0);
        q.eventB(43, 18, 19).is(0);
        return q;
    }

    /** "kept in the order in which they came": not in that of their times; the first and the last. */
    static void inTheOrderOfComing() {
        Run q = withThreeEach();
        q.eventIs(0, 0, 31, 4, 5);
        q.eventIs(0, 1, 2, -6, -7);
        q.eventIs(0, 2, 33, 8, 9);
        q.eventIs(1, 0, 41, 14, 15);
        q.eventIs(1, 1, 3, -16, -17);
        q.eventIs(1, 2, 43, 18, 19);
    }

    /** "0: there is none": nothing came. */
    static void nothingCame() {
        Run q = new Run();
        q.noEvent(0, 0);
        q.noEvent(1, 0);
        q.noEvent(0, -1);
        q.noEvent(1, -1);
    }

    /** "0: there is none": one stream is empty, the other is not. */
    static void oneStreamIsEmpty() {
        Run q = Run.with(10, 10, 0, 0, 9, 9);
        q.eventA(31, 4, 5).is(0);
        q.noEvent(1, 0);
        q = Run.with(10, 10, 0, 0, 9, 9);
        q.eventB(31, 4, 5).is(0);
        q.noEvent(0, 0);
    }

    /** "0: there is none": below the first. */
    static void belowTheFirst() {
        Run q = withThreeEach();
        for (int stream = 0; stream < 2; stream++) {
            q.noEvent(stream, -1);
            q.noEvent(stream, -200);
            q.noEvent(stream, Run.LEAST);
        }
    }

    /** "0: there is none": after the last. */
    static void afterTheLast() {
        Run q = withThreeEach();
        for (int stream = 0; stream < 2; stream++) {
            q.noEvent(stream, 3);
            q.noEvent(stream, 9);
            q.noEvent(stream, 200);
            q.noEvent(stream, Run.MOST);
        }
    }

    /** "of A (stream = 0) or B (1)": another stream has none. */
    static void anotherStream() {
        Run q = withThreeEach();
        int[] others = {-1, 2, 3, Run.LEAST, Run.MOST};
        for (int stream : others) {
            q.noEvent(stream, 0);
        }
    }

    /** "what = 0 TIME, 1 KEY, 2 VALUE": another what has nothing to tell. */
    static void anotherWhat() {
        Run q = withThreeEach();
        int[] others = {-1, 3, 4, Run.LEAST, Run.MOST};
        for (int what : others) {
            q.event(0, 0, what).is(0);
            q.event(1, 0, what).is(0);
        }
    }

    /** "EVENT i that is KEPT": one that went is not told, and those after it move up. */
    static void afterOneWent() {
        Run q = withThreeEach();
        q.bothMarks(10).is(1);
        q.eventIs(0, 0, 31, 4, 5);
        q.eventIs(0, 1, 33, 8, 9);
        q.noEvent(0, 2);
        q.eventIs(1, 0, 41, 14, 15);
        q.eventIs(1, 1, 43, 18, 19);
        q.noEvent(1, 2);
    }

    /** "EVENT i that is KEPT": all went. */
    static void afterAllWent() {
        Run q = withThreeEach();
        q.bothMarks(1000).is(2);
        q.noEvent(0, 0);
        q.noEvent(1, 0);
    }

    /** "EVENT i that is KEPT": those that were refused are not. */
    static void refusedEventsAreNotKept() {
        Run q = Run.with(10, 10, 0, 0, 1, 9);
        q.bothMarks(5).is(0);
        q.eventA(4, 1, 1).is(Run.LATE);
        q.eventB(4, 1, 1).is(Run.LATE);
        q.eventA(1000000001, 1, 1).is(Run.BAD);
        q.eventB(-1000000001, 1, 1).is(Run.BAD);
        q.noEvent(0, 0);
        q.noEvent(1, 0);
        q.eventB(6, 2, 3).is(0);
        q.eventA(6, 2, 3).is(Run.FULL);
        q.eventB(6, 2, 3).is(Run.FULL);
        q.noEvent(0, 0);
        q.noEvent(1, 1);
    }

    /** As many events as ROOM can be: the last, and none after it. */
    static void fullRoom() {
        Run q = Run.with(10, 10, 0, 0, 200, 9);
        for (int n = 0; n < 200; n++) {
            q.eventA(n, n + 1, n + 2).is(0);
        }
        q.eventIs(0, 0, 0, 1, 2);
        q.eventIs(0, 199, 199, 200, 201);
        q.noEvent(0, 200);
        q.noEvent(1, 0);
    }

    /** Numbers at the ends are told as they came. */
    static void numbersAtTheEnds() {
        Run q = Run.with(10, 10, 0, 0, 9, 9);
        q.eventA(-1000000000, Run.LEAST, Run.MOST).is(0);
        q.eventB(1000000000, Run.MOST, Run.LEAST).is(0);
        q.eventIs(0, 0, -1000000000, Run.LEAST, Run.MOST);
        q.eventIs(1, 0, 1000000000, Run.MOST, Run.LEAST);
    }

    /** A set leaves none. */
    static void noneAfterSet() {
        Run q = withThreeEach();
        q.set(10, 10, 0, 0, 9, 9).is(0);
        q.noEvent(0, 0);
        q.noEvent(1, 0);
    }
}
