/** Promise 8, available: an empty queue, a full one, and what refused calls leave in it. */
final class Promise08Test {
    public static void main(String[] args) throws Exception {
        Sentences.testAll(Promise08Test.class);
    }

    /** "How many RECORDS THE QUEUE has": none, also after a pop of an empty queue. */
    static void emptyQueue() {
        Run q = new Run();
        q.available().is(0);
        q.pop().is(0);
        q.available().is(0);
        q.eventA(1, 1, 1).is(0);
        q.available().is(0);
    }

    /** "How many RECORDS": of both kinds together, each pair and each key of a window. */
    static void bothKinds() {
        Run q = Run.with(10, 10, 0, 0, 9, 9);
        q.eventA(1, 1, 1).is(0);
        q.eventA(1, 2, 1).is(0);
        q.eventB(1, 1, 1).is(1);
        q.available().is(1);
        q.bothMarks(10).is(1);
        q.available().is(3);
    }

    /** "at most LINE": full of the least LINE, and no more after a refused call. */
    static void fullOfOne() {
        Run q = Run.with(10, 10, 0, 0, 9, 1);
        q.eventA(1, 1, 1).is(0);
        q.eventB(1, 1, 1).is(1);
        q.available().is(1);
        q.eventB(1, 1, 1).is(Run.FULL);
        q.eventA(1, 1, 1).is(Run.FULL);
        q.markA(10).is(0);
        q.markB(10).is(Run.FULL);
        q.available().is(1);
    }

    /** "at most LINE": full of the greatest LINE. */
    static void fullOfFourHundred() {
        Run q = Run.with(10, 10, 0, 0, 200, 400);
        for (int n = 0; n < 20; n++) {
            q.eventB(0, 0, n).is(0);
        }
        for (int n = 1; n <= 20; n++) {
            q.eventA(0, 0, n).is(20);
            q.available().is(20 * n);
        }
        q.eventA(0, 0, 0).is(Run.FULL);
        q.available().is(400);
    }

    /** One less after each pop, to none. */
    static void lessAfterPop() {
        Run q = Run.busy();
        for (int left = 2; left >= 0; left--) {
            q.pop().is(1);
            q.available().is(left);
        }
        q.pop().is(0);
        q.available().is(0);
    }

    /** As many as it has, also where it has gone round: more have come in all than LINE. */
    static void queueThatGoesRound() {
        Run q = Run.with(10, 10, 0, 0, 9, 3);
        q.eventB(1, 1, 1).is(0);
        q.eventB(1, 1, 2).is(0);
        for (int n = 0; n < 5; n++) {
            q.eventA(1, 1, n).is(2);
            q.available().is(2);
            q.pops(2);
        }
        q.available().is(0);
    }

    /** LATE, BAD and STALE bring no RECORD. */
    static void refusedCallsBringNone() {
        Run q = Run.busy();
        q.eventA(9, 1, 1).is(Run.LATE);
        q.eventB(9, 1, 1).is(Run.LATE);
        q.eventA(1000000001, 1, 1).is(Run.BAD);
        q.markA(14).is(Run.STALE);
        q.markB(1000000001).is(Run.BAD);
        q.available().is(3);
    }
}
