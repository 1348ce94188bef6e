/** Promise 10, field: "0: there is none", of the records and of the numbers of each. */
final class Promise10Test {
    public static void main(String[] args) throws Exception {
        Sentences.testAll(Promise10Test.class);
    }

    /** "of a PAIR (kind 2): TIME of A, TIME of B, KEY, VALUE of A, VALUE of B". */
    static void numbersOfAPair() {
        Run q = Run.with(10, 10, 0, 2, 9, 9);
        q.eventA(1, -3, 4).is(0);
        q.eventB(2, -3, 5).is(1);
        q.recordIs(0, 2, 1, 2, -3, 4, 5);
    }

    /** "of a WINDOW and a KEY (kind 1): its end, KEY, .. the sum (32 bits), how many, the greatest VALUE". */
    static void numbersOfAWindow() {
        Run q = Run.with(10, 10, 0, 0, 9, 9);
        q.eventA(1, -3, 4).is(0);
        q.eventA(2, -3, 5).is(0);
        q.eventA(3, -3, -6).is(0);
        q.bothMarks(10).is(1);
        q.recordIs(0, 1, 10, -3, 3, 3, 5);
    }

    /** "Number k (0 .. 4)": too small; the kind is not a number of the record. */
    static void numberTooSmall() {
        Run q = Run.busy();
        for (int i = 0; i < 3; i++) {
            q.field(i, -1).is(0);
            q.field(i, -2).is(0);
            q.field(i, -6).is(0);
            q.field(i, Run.LEAST).is(0);
        }
    }

    /** "Number k (0 .. 4)": too large; no number of the next record is told. */
    static void numberTooLarge() {
        Run q = Run.busy();
        for (int i = 0; i < 3; i++) {
            q.field(i, 5).is(0);
            q.field(i, 6).is(0);
            q.field(i, 12).is(0);
            q.field(i, Run.MOST).is(0);
        }
    }

    /** "0: there is none": an empty queue. */
    static void emptyQueue() {
        Run q = new Run();
        q.noRecord(0);
        q.noRecord(-1);
        q.noRecord(1);
    }

    /** "0: there is none": below the first record. */
    static void belowTheFirst() {
        Run q = Run.busy();
        q.noRecord(-1);
        q.noRecord(-400);
        q.noRecord(Run.LEAST);
    }

    /** "0: there is none": after the last record. */
    static void afterTheLast() {
        Run q = Run.busy();
        q.noRecord(3);
        q.noRecord(4);
        q.noRecord(400);
        q.noRecord(Run.MOST);
    }

    /** "0: there is none": numbers that come back to a record if they are multiplied or taken modulo. */
    static void numbersThatWrapAround() {
        Run q = Run.busy();
        q.noRecord(1 << 30);
        q.noRecord(715827883);
        q.noRecord(800);
        q.field(0, 1 << 31).is(0);
        q.field(1, -5).is(0);
        q.field(0, (1 << 31) + 1).is(0);
    }

    /** "0: there is none": both are out. */
    static void bothAreOut() {
        Run q = Run.busy();
        q.field(-1, 6).is(0);
        q.field(3, -6).is(0);
        q.field(Run.MOST, Run.MOST).is(0);
        q.field(Run.LEAST, Run.LEAST).is(0);
    }

    /** A record that was popped is none, and the others have moved up. */
    static void afterPop() {
        Run q = Run.busy();
        q.recordIs(0, 2, 3, 4, 1, 100, 200);
        q.recordIs(1, 1, 10, 1, 100, 1, 100);
        q.recordIs(2, 2, 12, 13, 1, 5, 7);
        q.pop().is(1);
        q.recordIs(0, 1, 10, 1, 100, 1, 100);
        q.recordIs(1, 2, 12, 13, 1, 5, 7);
        q.noRecord(2);
        q.noRecord(-1);
    }

    /** A queue that has gone round, of the greatest LINE: each record is where it is due. */
    static void queueThatHasGoneRound() {
        Run q = Run.with(10, 10, 0, 0, 200, 400);
        for (int n = 0; n < 40; n++) {
            q.eventB(0, 0, n).is(0);
        }
        for (int n = 0; n < 10; n++) {
            q.eventA(0, 0, n).is(40);
        }
        q.pops(40);
        q.eventA(0, 0, 10).is(40);
        q.recordIs(0, 2, 0, 0, 0, 1, 0);
        q.recordIs(359, 2, 0, 0, 0, 9, 39);
        q.recordIs(360, 2, 0, 0, 0, 10, 0);
        q.recordIs(399, 2, 0, 0, 0, 10, 39);
        q.noRecord(400);
    }

    /** Numbers at the ends stand in a record as they came. */
    static void numbersAtTheEnds() {
        Run q = Run.with(10, 10, 0, 1000000, 9, 9);
        q.eventA(1000000000, Run.LEAST, Run.MOST).is(0);
        q.eventB(999000000, Run.LEAST, Run.LEAST).is(1);
        q.recordIs(0, 2, 1000000000, 999000000, Run.LEAST, Run.MOST, Run.LEAST);
    }
}
