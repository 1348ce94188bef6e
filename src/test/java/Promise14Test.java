/** Promise 14, count: each of its numbers from nothing on, and what refused calls leave in them. */
final class Promise14Test {
    public static void main(String[] args) throws Exception {
        Sentences.testAll(Promise14Test.class);
    }

    /** "BAD: another what": too small. */
    static void whatTooSmall() {
        Run q = Run.busy();
        q.count(-1).is(Run.BAD);
        q.count(-2).is(Run.BAD);
        q.count(Run.LEAST).is(Run.BAD);
    }

    /** "BAD: another what": too large. */
    static void whatTooLarge() {
        Run q = Run.busy();
        q.count(9).is(Run.BAD);
        q.count(10).is(Run.BAD);
        q.count(Run.MOST).is(Run.BAD);
    }

    /** "0, 1 EVENTS of A, B that are KEPT": each by itself, and fewer when some go. */
    static void eventsThatAreKept() {
        Run q = Run.with(10, 10, 0, 0, 9, 9);
        q.eventA(5, 1, 1).is(0);
        q.countsAre(1, 0);
        q.eventB(6, 2, 1).is(0);
        q.eventB(7, 2, 1).is(0);
        q.countsAre(1, 2);
        q.bothMarks(7).is(0);
        q.countsAre(1, 1);
        q.bothMarks(10).is(1);
        q.countsAre(0, 0);
    }

    /** "0, 1 EVENTS of A, B that are KEPT": a full room, of both. */
    static void fullRoom() {
        Run q = Run.with(10, 10, 0, 0, 200, 9);
        for (int n = 0; n < 100; n++) {
            q.eventA(0, n, 0).is(0);
            q.eventB(1, n, 0).is(0);
        }
        q.eventA(0, 0, 0).is(Run.FULL);
        q.eventB(1, 0, 0).is(Run.FULL);
        q.countsAre(100, 100, 0, Run.FIRST_MARK, Run.FIRST_MARK, 1, 0, 0, 200);
    }

    /** "2 those that were LATE": of A and of B, and no other that is refused. */
    static void lateEvents() {
        Run q = Run.with(10, 10, 0, 0, 1, 9);
        q.bothMarks(5).is(0);
        q.count(2).is(0);
        q.eventA(4, 1, 1).is(Run.LATE);
        q.count(2).is(1);
        q.eventB(4, 1, 1).is(Run.LATE);
        q.count(2).is(2);
        q.eventA(-1000000001, 1, 1).is(Run.BAD);
        q.eventB(1000000001, 1, 1).is(Run.BAD);
        q.eventA(5, 1, 1).is(0);
        q.eventA(5, 1, 1).is(Run.FULL);
        q.eventB(5, 1, 1).is(Run.FULL);
        q.markA(4).is(Run.STALE);
        q.count(2).is(2);
    }

    /** "3, 4 the MARKS": each its own, also at the ends. */
    static void marks() {
        Run q = new Run();
        q.count(3).is(-2000000000);
        q.count(4).is(-2000000000);
        q.markA(1000000000).is(0);
        q.count(3).is(1000000000);
        q.count(4).is(-2000000000);
        q.markB(-1000000000).is(0);
        q.count(3).is(1000000000);
        q.count(4).is(-1000000000);
    }

    /** "3, 4 the MARKS": a refused mark leaves them. */
    static void refusedMarks() {
        Run q = Run.with(10, 10, 0, 0, 9, 1);
        q.eventA(5, 1, 1).is(0);
        q.eventA(5, 2, 1).is(0);
        q.markA(20).is(0);
        q.markB(4).is(0);
        q.markB(20).is(Run.FULL);
        q.markA(19).is(Run.STALE);
        q.markB(3).is(Run.STALE);
        q.markA(1000000001).is(Run.BAD);
        q.markB(1000000001).is(Run.BAD);
        q.count(3).is(20);
        q.count(4).is(4);
    }

    /** "5 WINDOWS that have EVENTS": each once, with as many events and keys as it has. */
    static void windowsAreCountedOnce() {
        Run q = Run.with(10, 5, 0, 0, 9, 9);
        q.count(5).is(0);
        q.eventA(7, 1, 1).is(0);
        q.count(5).is(2);
        q.eventA(7, 1, 1).is(0);
        q.eventA(7, 2, 1).is(0);
        q.count(5).is(2);
        q.eventA(2, 3, 1).is(0);
        q.count(5).is(3);
        q.eventB(100, 3, 1).is(0);
        q.count(5).is(3);
    }

    /** "5 WINDOWS that .. are not OVER": to the edge, though the event is still kept. */
    static void windowsThatAreNotOver() {
        Run q = Run.with(10, 5, 3, 50, 9, 9);
        q.eventA(7, 1, 1).is(0);
        q.bothMarks(12).is(0);
        q.count(5).is(2);
        q.bothMarks(13).is(1);
        q.count(5).is(1);
        q.bothMarks(18).is(1);
        q.count(5).is(0);
        q.count(0).is(1);
    }

    /** "5 WINDOWS": as many as there can be. */
    static void mostWindows() {
        Run q = Run.with(16, 1, 0, 0, 200, 9);
        for (int n = 0; n < 200; n++) {
            q.eventA(16 * n, 0, 0).is(0);
        }
        q.count(5).is(3200);
    }

    /** "6 PAIRS that were told": though they were popped, and none that found the queue full. */
    static void pairsThatWereTold() {
        Run q = Run.with(10, 10, 0, 0, 9, 3);
        q.eventA(5, 1, 1).is(0);
        q.eventA(5, 1, 1).is(0);
        q.count(6).is(0);
        q.eventB(5, 1, 1).is(2);
        q.count(6).is(2);
        q.eventB(5, 1, 1).is(Run.FULL);
        q.count(6).is(2);
        q.pops(2);
        q.count(6).is(2);
        q.eventB(5, 1, 1).is(2);
        q.count(6).is(4);
        q.count(7).is(0);
    }

    /** "7 RECORDS of WINDOWS that were told": records and not windows, though popped, and none that found the queue full. */
    static void recordsOfWindowsThatWereTold() {
        Run q = Run.with(10, 10, 0, 0, 9, 2);
        q.eventA(5, 1, 1).is(0);
        q.eventA(5, 2, 1).is(0);
        q.count(7).is(0);
        q.bothMarks(10).is(1);
        q.count(7).is(2);
        q.eventA(15, 1, 1).is(0);
        q.markA(20).is(0);
        q.markB(20).is(Run.FULL);
        q.count(7).is(2);
        q.pops(2);
        q.count(7).is(2);
        q.markB(20).is(1);
        q.count(7).is(3);
        q.count(6).is(0);
    }

    /** "8 EVENTS that were taken": of both streams, also when they went, and none that was refused. */
    static void eventsThatWereTaken() {
        Run q = Run.with(10, 10, 0, 0, 2, 9);
        q.count(8).is(0);
        q.eventA(5, 1, 1).is(0);
        q.count(8).is(1);
        q.eventB(5, 2, 1).is(0);
        q.count(8).is(2);
        q.eventA(5, 1, 1).is(Run.FULL);
        q.eventB(5, 1, 1).is(Run.FULL);
        q.eventA(1000000001, 1, 1).is(Run.BAD);
        q.eventB(1000000001, 1, 1).is(Run.BAD);
        q.bothMarks(10).is(1);
        q.eventA(9, 1, 1).is(Run.LATE);
        q.eventB(9, 1, 1).is(Run.LATE);
        q.countsAre(0, 0, 2);
        q.count(8).is(2);
    }

    /** "8 EVENTS that were taken": none that found the queue full. */
    static void fullLineIsNotTaken() {
        Run q = Run.with(10, 10, 0, 0, 9, 1);
        q.eventA(5, 1, 1).is(0);
        q.eventB(5, 1, 1).is(1);
        q.eventA(5, 1, 1).is(Run.FULL);
        q.eventB(5, 1, 1).is(Run.FULL);
        q.count(8).is(2);
    }

    /** "(all of these since set())": all from nothing on, and after a refused set as before. */
    static void sinceSet() {
        Run q = Run.busy();
        q.set(0, 0, 0, 0, 0, 0).is(Run.BAD);
        q.countsAre(2, 1, 1, 14, 10, 1, 2, 1, 5);
        q.set(10, 10, 0, 2, 6, 5).is(0);
        q.countsAre(0, 0, 0, Run.FIRST_MARK, Run.FIRST_MARK, 0, 0, 0, 0);
        q.eventA(5, 1, 1).is(0);
        q.eventB(5, 1, 1).is(1);
        q.bothMarks(10).is(1);
        q.eventA(9, 1, 1).is(Run.LATE);
        q.countsAre(0, 0, 1, 10, 10, 0, 1, 1, 2);
    }
}
