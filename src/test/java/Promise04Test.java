/** Promise 4, eventB, "likewise": what it refuses and in which order, its pairs, and that it is in no window. */
final class Promise04Test {
    public static void main(String[] args) throws Exception {
        Sentences.testAll(Promise04Test.class);
    }

    /** "TIMES are -1000000000 .. 1000000000": the least. */
    static void leastTime() {
        Run q = Run.with(10, 10, 0, 0, 9, 9);
        q.eventB(-1000000000, 1, 7).is(0);
        q.eventIs(1, 0, -1000000000, 1, 7);
    }

    /** "BAD: TIME": too small. */
    static void timeTooSmall() {
        Run q = Run.with(10, 10, 0, 0, 9, 9);
        q.eventB(-1000000001, 1, 7).is(Run.BAD);
        q.eventB(Run.FIRST_MARK, 1, 7).is(Run.BAD);
        q.eventB(Run.LEAST, 1, 7).is(Run.BAD);
    }

    /** "TIMES are -1000000000 .. 1000000000": the greatest. */
    static void greatestTime() {
        Run q = Run.with(10, 10, 0, 0, 9, 9);
        q.eventB(1000000000, 1, 7).is(0);
        q.eventIs(1, 0, 1000000000, 1, 7);
    }

    /** "BAD: TIME": too large. */
    static void timeTooLarge() {
        Run q = Run.with(10, 10, 0, 0, 9, 9);
        q.eventB(1000000001, 1, 7).is(Run.BAD);
        q.eventB(Run.MOST, 1, 7).is(Run.BAD);
    }

    /** "BAD": refused, so that nothing has changed. */
    static void badChangesNothing() {
        Run q = Run.busy();
        String before = q.state();
        q.eventB(-1000000001, 1, 7).is(Run.BAD);
        q.eventB(1000000001, 1, 7).is(Run.BAD);
        q.stateIs(before);
    }

    /** "The first of: BAD ..; LATE": what is both is not counted as late. */
    static void badComesBeforeLate() {
        Run q = Run.with(10, 10, 0, 0, 9, 9);
        q.bothMarks(5).is(0);
        q.eventB(-1000000001, 1, 7).is(Run.BAD);
        q.count(2).is(0);
    }

    /** "The first of: BAD ..; FULL". */
    static void badComesBeforeFull() {
        Run q = Run.with(10, 10, 0, 0, 1, 9);
        q.eventB(1, 1, 7).is(0);
        q.eventB(1000000001, 1, 7).is(Run.BAD);
    }

    /** "LATE if its TIME is below THE MARK less LATENESS": just not below. */
    static void notLateOnTheEdge() {
        Run q = Run.with(10, 10, 3, 0, 9, 9);
        q.bothMarks(20).is(0);
        q.eventB(17, 1, 7).is(0);
        q.count(2).is(0);
    }

    /** "LATE if its TIME is below THE MARK less LATENESS": one below, and far below. */
    static void lateBelowTheEdge() {
        Run q = Run.with(10, 10, 3, 0, 9, 9);
        q.bothMarks(20).is(0);
        q.eventB(16, 1, 7).is(Run.LATE);
        q.eventB(-1000000000, 1, 7).is(Run.LATE);
    }

    /** "LATE (and one more is counted)", in the same count as those of A, and nothing else changes. */
    static void lateIsCountedAlone() {
        Run q = Run.busy();
        q.countsAre(2, 1, 1, 14, 10, 1, 2, 1, 5);
        q.eventB(9, 1, 7).is(Run.LATE);
        q.countsAre(2, 1, 2, 14, 10, 1, 2, 1, 5);
        q.available().is(3);
        q.noEvent(1, 1);
    }

    /** "LATE .. below THE MARK", which is the lesser one: not late by one stream's mark alone. */
    static void notLateByOneMarkAlone() {
        Run q = Run.with(10, 10, 0, 0, 9, 9);
        q.markB(50).is(0);
        q.eventB(49, 1, 7).is(0);
        q = Run.with(10, 10, 0, 0, 9, 9);
        q.markA(50).is(0);
        q.eventB(49, 1, 7).is(0);
    }

    /** "LATE" at first: nothing is below -2000000000 less the greatest LATENESS. */
    static void notLateAtFirst() {
        Run q = Run.with(10, 10, 1000000, 1000000, 9, 9);
        q.eventB(-1000000000, 1, 7).is(0);
        q.count(2).is(0);
    }

    /** "The first of: .. LATE ..; FULL: ROOM EVENTS are KEPT". */
    static void lateComesBeforeFullRoom() {
        Run q = Run.with(10, 10, 0, 0, 1, 9);
        q.bothMarks(20).is(0);
        q.eventB(20, 1, 7).is(0);
        q.eventB(19, 1, 7).is(Run.LATE);
        q.count(2).is(1);
    }

    /** "The first of: .. LATE ..; FULL: .. THE QUEUE", with two events of A that would be near. */
    static void lateComesBeforeFullLine() {
        Run q = Run.with(10, 10, 0, 5, 9, 1);
        q.eventA(20, 1, 7).is(0);
        q.eventA(20, 1, 7).is(0);
        q.bothMarks(20).is(0);
        q.eventB(19, 1, 7).is(Run.LATE);
        q.eventB(20, 1, 7).is(Run.FULL);
        q.count(2).is(1);
    }

    /** "FULL: ROOM EVENTS are KEPT": of B alone, the last that has room and the next. */
    static void roomIsFullOfB() {
        Run q = Run.with(10, 10, 0, 0, 3, 9);
        q.eventB(1, 1, 7).is(0);
        q.eventB(2, 2, 7).is(0);
        q.eventB(3, 3, 7).is(0);
        q.eventB(4, 4, 7).is(Run.FULL);
    }

    /** "FULL: ROOM EVENTS are KEPT": of A alone. */
    static void roomIsFullOfA() {
        Run q = Run.with(10, 10, 0, 0, 2, 9);
        q.eventA(1, 1, 7).is(0);
        q.eventA(2, 2, 7).is(0);
        q.eventB(3, 3, 7).is(Run.FULL);
    }

    /** "FULL: ROOM EVENTS are KEPT": of A and B together. */
    static void roomIsFullOfBoth() {
        Run q = Run.with(10, 10, 0, 0, 2, 9);
        q.eventA(1, 1, 7).is(0);
        q.eventB(2, 2, 7).is(0);
        q.eventB(3, 3, 7).is(Run.FULL);
    }

    /** "FULL: ROOM EVENTS are KEPT": there is room again when one is not. */
    static void roomIsFreeAgain() {
        Run q = Run.with(10, 10, 0, 2, 1, 9);
        q.eventB(5, 1, 7).is(0);
        q.bothMarks(7).is(0);
        q.eventB(20, 1, 7).is(Run.FULL);
        q.bothMarks(8).is(0);
        q.eventB(20, 1, 7).is(0);
    }

    /** The greatest ROOM, full of B. */
    static void greatestRoomOfB() {
        Run q = Run.with(10, 10, 0, 0, 200, 9);
        for (int n = 0; n < 200; n++) {
            q.eventB(n, n, n).is(0);
        }
        q.eventB(0, 0, 0).is(Run.FULL);
        q.eventA(0, 0, 0).is(Run.FULL);
        q.count(1).is(200);
        q.eventIs(1, 199, 199, 199, 199);
    }

    /** "FULL" by ROOM: refused, so that nothing has changed. */
    static void fullRoomChangesNothing() {
        Run q = Run.with(10, 10, 0, 2, 3, 9);
        q.eventA(5, 1, 7).is(0);
        q.eventB(5, 1, 7).is(1);
        q.eventA(15, 2, 8).is(0);
        String before = q.state();
        q.eventB(5, 1, 9).is(Run.FULL);
        q.stateIs(before);
    }

    /** "FULL: .. THE QUEUE would have more than LINE": just as many as LINE. */
    static void asManyAsLine() {
        Run q = Run.with(10, 10, 0, 0, 9, 2);
        q.eventA(1, 1, 7).is(0);
        q.eventA(1, 1, 8).is(0);
        q.eventB(1, 1, 9).is(2);
        q.available().is(2);
    }

    /** "FULL: .. THE QUEUE would have more than LINE": one more, from an empty queue and from a full one. */
    static void oneMoreThanLine() {
        Run q = Run.with(10, 10, 0, 0, 9, 2);
        q.eventA(1, 1, 7).is(0);
        q.eventA(1, 1, 8).is(0);
        q.eventA(1, 1, 9).is(0);
        q.eventB(1, 1, 9).is(Run.FULL);
        q.eventA(2, 1, 9).is(0);
        q.eventB(2, 1, 9).is(1);
        q.eventB(2, 1, 9).is(1);
        q.eventB(2, 1, 9).is(Run.FULL);
    }

    /** "THE QUEUE would have more than LINE": not if no PAIR comes, as full as it is. */
    static void fullQueueTakesAnEventWithoutPair() {
        Run q = Run.with(10, 10, 0, 0, 9, 1);
        q.eventA(1, 1, 7).is(0);
        q.eventB(1, 1, 8).is(1);
        q.eventB(1, 2, 9).is(0);
        q.count(1).is(2);
    }

    /** "THE QUEUE would have more than LINE": after a pop there is a place again. */
    static void popMakesAPlace() {
        Run q = Run.with(10, 10, 0, 0, 9, 1);
        q.eventA(1, 1, 7).is(0);
        q.eventB(1, 1, 8).is(1);
        q.eventB(1, 1, 9).is(Run.FULL);
        q.pop().is(1);
        q.eventB(1, 1, 9).is(1);
        q.recordIs(0, 2, 1, 1, 1, 7, 9);
    }

    /** "FULL" by LINE: refused, so that nothing has changed, nor is a part of the pairs told. */
    static void fullLineChangesNothing() {
        Run q = Run.with(10, 10, 0, 0, 9, 3);
        q.eventA(5, 1, 7).is(0);
        q.eventA(5, 1, 8).is(0);
        q.eventB(5, 1, 9).is(2);
        String before = q.state();
        q.eventB(5, 1, 10).is(Run.FULL);
        q.stateIs(before);
    }

    /** "how many RECORDS come": none, where A has no event, and where none has the KEY. */
    static void noPair() {
        Run q = Run.with(10, 10, 0, 5, 9, 9);
        q.eventB(1, 1, 7).is(0);
        q.eventA(1, 2, 7).is(0);
        q.eventB(1, 1, 7).is(0);
        q.available().is(0);
        q.count(6).is(0);
    }

    /** "likewise", so one for each PAIR with it and those of A: B is not put together with B. */
    static void noPairOfTwoOfB() {
        Run q = Run.with(10, 10, 0, 5, 9, 9);
        q.eventB(1, 1, 7).is(0);
        q.eventB(1, 1, 8).is(0);
        q.available().is(0);
    }

    /** "of a PAIR (kind 2): TIME of A, TIME of B ..", though B came later, and in the order of coming. */
    static void pairsTellAFirst() {
        Run q = Run.with(10, 10, 0, 5, 9, 9);
        q.eventA(12, 1, 100).is(0);
        q.eventA(8, 1, 200).is(0);
        q.eventA(10, 2, 300).is(0);
        q.eventA(11, 1, 400).is(0);
        q.eventB(10, 1, -7).is(3);
        q.recordIs(0, 2, 12, 10, 1, 100, -7);
        q.recordIs(1, 2, 8, 10, 1, 200, -7);
        q.recordIs(2, 2, 11, 10, 1, 400, -7);
        q.noRecord(3);
    }

    /** "not more than SPAN apart": just SPAN, on both sides. */
    static void spanApart() {
        Run q = Run.with(10, 10, 0, 5, 9, 9);
        q.eventA(0, 1, 7).is(0);
        q.eventB(5, 1, 8).is(1);
        q.eventB(-5, 1, 9).is(1);
    }

    /** "not more than SPAN apart": one more, on both sides. */
    static void moreThanSpanApart() {
        Run q = Run.with(10, 10, 0, 5, 9, 9);
        q.eventA(0, 1, 7).is(0);
        q.eventB(6, 1, 8).is(0);
        q.eventB(-6, 1, 9).is(0);
    }

    /** "not more than SPAN apart": as far apart as TIMES can be, with the greatest SPAN. */
    static void asFarApartAsCanBe() {
        Run q = Run.with(10, 10, 0, 1000000, 9, 9);
        q.eventA(1000000000, 1, 7).is(0);
        q.eventB(-1000000000, 1, 8).is(0);
        q.eventA(-1000000000, 2, 7).is(0);
        q.eventB(1000000000, 2, 8).is(0);
    }

    /** "with the same KEY .. (any numbers)": the ends of the numbers are keys like others. */
    static void keysAtTheEnds() {
        Run q = Run.with(10, 10, 0, 0, 9, 9);
        q.eventA(0, Run.LEAST, 7).is(0);
        q.eventA(0, Run.MOST, 8).is(0);
        q.eventB(0, Run.MOST, 9).is(1);
        q.recordIs(0, 2, 0, 0, Run.MOST, 8, 9);
        q.eventB(0, Run.LEAST, 9).is(1);
        q.recordIs(1, 2, 0, 0, Run.LEAST, 7, 9);
        q.eventB(0, 0, 9).is(0);
    }

    /** "VALUE (any numbers)": also those of the constants and of the ends. */
    static void valuesAtTheEnds() {
        Run q = Run.with(10, 10, 0, 0, 9, 9);
        q.eventA(0, 1, Run.LEAST).is(0);
        q.eventB(0, 1, Run.MOST).is(1);
        q.recordIs(0, 2, 0, 0, 1, Run.LEAST, Run.MOST);
        q.eventB(0, 1, Run.FULL).is(1);
        q.recordIs(1, 2, 0, 0, 1, Run.LEAST, Run.FULL);
    }

    /** "those .. that are KEPT": the last TIME of A that is near, with the first of B that is not late. */
    static void pairWithTheLastThatIsKept() {
        Run q = Run.with(1, 1, 2, 5, 9, 9);
        q.eventA(5, 1, 7).is(0);
        q.eventA(6, 1, 8).is(0);
        q.bothMarks(13).is(2);
        q.eventB(11, 1, 9).is(1);
        q.recordIs(2, 2, 6, 11, 1, 8, 9);
    }

    /** An event of A that is kept by its window alone is not near: more than SPAN apart. */
    static void noPairWithOneThatItsWindowKeeps() {
        Run q = Run.with(100, 100, 0, 5, 9, 9);
        q.eventA(1, 1, 7).is(0);
        q.bothMarks(50).is(0);
        q.count(0).is(1);
        q.eventB(50, 1, 8).is(0);
    }

    /** "an EVENT of A is in all of which ..": one of B is in no window. */
    static void inNoWindow() {
        Run q = Run.with(10, 10, 0, 0, 9, 9);
        q.eventB(5, 1, 7).is(0);
        q.count(5).is(0);
        q.noLook(10, 1);
        q.bothMarks(10).is(0);
        q.available().is(0);
    }
}
