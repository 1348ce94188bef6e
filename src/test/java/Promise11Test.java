/** Promise 11, pop: of an empty queue, of the last record, of a queue that goes round. */
final class Promise11Test {
    public static void main(String[] args) throws Exception {
        Sentences.testAll(Promise11Test.class);
    }

    /** "whether there was one": a new queue has none, however often it is asked. */
    static void emptyQueue() {
        Run q = new Run();
        q.pop().is(0);
        q.pop().is(0);
        q.available().is(0);
    }

    /** A pop of an empty queue changes nothing: what comes next is the first. */
    static void popOfAnEmptyQueueChangesNothing() {
        Run q = Run.with(10, 10, 0, 0, 9, 2);
        q.pop().is(0);
        q.eventA(1, 1, 7).is(0);
        q.pop().is(0);
        q.eventB(1, 1, 8).is(1);
        q.available().is(1);
        q.recordIs(0, 2, 1, 1, 1, 7, 8);
        q.eventB(1, 1, 9).is(1);
        q.eventB(1, 1, 9).is(Run.FULL);
    }

    /** "The first RECORD goes": not the last. */
    static void firstGoes() {
        Run q = Run.busy();
        q.pop().is(1);
        q.recordIs(0, 1, 10, 1, 100, 1, 100);
        q.pop().is(1);
        q.recordIs(0, 2, 12, 13, 1, 5, 7);
    }

    /** "whether there was one": the last one, and then none. */
    static void lastGoes() {
        Run q = Run.busy();
        q.pop().is(1);
        q.pop().is(1);
        q.pop().is(1);
        q.pop().is(0);
        q.available().is(0);
        q.noRecord(0);
    }

    /** "The first RECORD goes": nothing else does. */
    static void nothingElseGoes() {
        Run q = Run.busy();
        q.countsAre(2, 1, 1, 14, 10, 1, 2, 1, 5);
        q.pops(3);
        q.countsAre(2, 1, 1, 14, 10, 1, 2, 1, 5);
        q.eventIs(0, 0, 12, 1, 5);
        q.eventIs(1, 0, 13, 1, 7);
        q.lookIs(20, 1, 5, 1, 5);
        q.mark().is(10);
    }

    /** A full queue, all of it popped, is filled again to its LINE. */
    static void fullQueueIsEmptiedAndFilled() {
        Run q = Run.with(10, 10, 0, 0, 9, 2);
        q.eventB(1, 1, 1).is(0);
        q.eventB(1, 1, 2).is(0);
        q.eventA(1, 1, 3).is(2);
        q.eventA(1, 1, 4).is(Run.FULL);
        q.pops(2);
        q.pop().is(0);
        q.eventA(1, 1, 4).is(2);
        q.recordIs(0, 2, 1, 1, 1, 4, 1);
        q.recordIs(1, 2, 1, 1, 1, 4, 2);
        q.eventA(1, 1, 5).is(Run.FULL);
    }

    /** More records come and go than the greatest LINE: they go in the order in which they came. */
    static void queueThatGoesRound() {
        Run q = Run.with(10, 10, 0, 0, 200, 400);
        for (int n = 0; n < 150; n++) {
            q.eventB(0, 0, n).is(0);
        }
        for (int n = 0; n < 2; n++) {
            q.eventA(0, 0, n).is(150);
            q.pops(145);
        }
        q.eventA(0, 0, 2).is(150);
        q.available().is(160);
        q.field(9, 4).is(149);
        q.field(10, 4).is(0);
        q.recordIs(159, 2, 0, 0, 0, 2, 149);
        q.pops(10);
        q.recordIs(0, 2, 0, 0, 0, 2, 0);
    }

    /** A set leaves none to pop. */
    static void noneAfterSet() {
        Run q = Run.busy();
        q.set(10, 10, 0, 2, 6, 5).is(0);
        q.pop().is(0);
    }
}
