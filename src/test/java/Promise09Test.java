/** Promise 9, kind: "0: there is none", on all sides of the queue. */
final class Promise09Test {
    public static void main(String[] args) throws Exception {
        Sentences.testAll(Promise09Test.class);
    }

    /** "The kind of RECORD i, from 0, the first of THE QUEUE, on": the first and the last. */
    static void firstAndLast() {
        Run q = Run.busy();
        q.kind(0).is(2);
        q.kind(1).is(1);
        q.kind(2).is(2);
    }

    /** "0: there is none": an empty queue. */
    static void emptyQueue() {
        Run q = new Run();
        q.kind(0).is(0);
        q.kind(-1).is(0);
        q.kind(1).is(0);
    }

    /** "0: there is none": below the first. */
    static void belowTheFirst() {
        Run q = Run.busy();
        q.kind(-1).is(0);
        q.kind(-2).is(0);
        q.kind(-400).is(0);
        q.kind(Run.LEAST).is(0);
    }

    /** "0: there is none": after the last. */
    static void afterTheLast() {
        Run q = Run.busy();
        q.kind(3).is(0);
        q.kind(4).is(0);
        q.kind(5).is(0);
        q.kind(400).is(0);
        q.kind(Run.MOST).is(0);
    }

    /** "0: there is none": numbers that come back to the first if they are multiplied or taken modulo. */
    static void numbersThatWrapAround() {
        Run q = Run.busy();
        q.kind(1 << 30).is(0);
        q.kind(1 << 31).is(0);
        q.kind(715827883).is(0);
        q.kind(800).is(0);
        q.kind(-800).is(0);
    }

    /** "the first of THE QUEUE": after a pop the next is the first, and the last place has none. */
    static void afterPop() {
        Run q = Run.busy();
        q.pop().is(1);
        q.kind(0).is(1);
        q.kind(1).is(2);
        q.kind(2).is(0);
        q.kind(-1).is(0);
        q.pops(2);
        q.kind(0).is(0);
    }

    /** A queue of the greatest LINE: its last, and none after it. */
    static void fullQueue() {
        Run q = Run.with(10, 10, 0, 0, 200, 400);
        for (int n = 0; n < 20; n++) {
            q.eventB(0, 0, n).is(0);
        }
        for (int n = 0; n < 20; n++) {
            q.eventA(0, 0, n).is(20);
        }
        q.kind(0).is(2);
        q.kind(399).is(2);
        q.kind(400).is(0);
        q.kind(-1).is(0);
    }

    /** A queue that has gone round: windows come after pairs where more have come in all than 400. */
    static void queueThatHasGoneRound() {
        Run q = Run.with(10, 10, 0, 0, 200, 400);
        for (int n = 0; n < 20; n++) {
            q.eventB(0, 0, n).is(0);
        }
        for (int n = 0; n < 20; n++) {
            q.eventA(0, 0, n).is(20);
        }
        q.pops(2);
        q.eventA(5, 7, 9).is(0);
        q.bothMarks(10).is(1);
        q.kind(397).is(2);
        q.kind(398).is(1);
        q.kind(399).is(1);
        q.kind(400).is(0);
    }
}
