/** Promise 3, eventA: what it refuses and in which order, its pairs, and its windows. */
final class Promise03Test {
    public static void main(String[] args) throws Exception {
        Sentences.testAll(Promise03Test.class);
    }

    /** "TIMES are -1000000000 .. 1000000000": the least. */
    static void leastTime() {
        Run q = Run.with(10, 10, 0, 0, 9, 9);
        q.eventA(-1000000000, 1, 7).is(0);
        q.eventIs(0, 0, -1000000000, 1, 7);
        q.lookIs(-999999990, 1, 7, 1, 7);
    }

    /** "BAD: TIME": too small. */
    static void timeTooSmall() {
        Run q = Run.with(10, 10, 0, 0, 9, 9);
        q.eventA(-1000000001, 1, 7).is(Run.BAD);
        q.eventA(Run.FIRST_MARK, 1, 7).is(Run.BAD);
        q.eventA(Run.LEAST, 1, 7).is(Run.BAD);
    }

    /** "TIMES are -1000000000 .. 1000000000": the greatest. */
    static void greatestTime() {
        Run q = Run.with(10, 10, 0, 0, 9, 9);
        q.eventA(1000000000, 1, 7).is(0);
        q.eventIs(0, 0, 1000000000, 1, 7);
        q.lookIs(1000000010, 1, 7, 1, 7);
    }

    /** "BAD: TIME": too large. */
    static void timeTooLarge() {
        Run q = Run.with(10, 10, 0, 0, 9, 9);
        q.eventA(1000000001, 1, 7).is(Run.BAD);
        q.eventA(Run.MOST, 1, 7).is(Run.BAD);
    }

    /** "BAD": refused, so that nothing has changed. */
    static void badChangesNothing() {
        Run q = Run.busy();
        String before = q.state();
        q.eventA(-1000000001, 1, 7).is(Run.BAD);
        q.eventA(1000000001, 1, 7).is(Run.BAD);
        q.stateIs(before);
    }

    /** "The first of: BAD ..; LATE": what is both is not counted as late. */
    static void badComesBeforeLate() {
        Run q = Run.with(10, 10, 0, 0, 9, 9);
        q.bothMarks(5).is(0);
        q.eventA(-1000000001, 1, 7).is(Run.BAD);
        q.count(2).is(0);
    }

    /** "The first of: BAD ..; FULL". */
    static void badComesBeforeFull() {
        Run q = Run.with(10, 10, 0, 0, 1, 9);
        q.eventA(1, 1, 7).is(0);
        q.eventA(1000000001, 1, 7).is(Run.BAD);
    }

    /** "LATE if its TIME is below THE MARK less LATENESS": just not below. */
    static void notLateOnTheEdge() {
        Run q = Run.with(10, 10, 3, 0, 9, 9);
        q.bothMarks(20).is(0);
        q.eventA(17, 1, 7).is(0);
        q.count(2).is(0);
    }

    /** "LATE if its TIME is below THE MARK less LATENESS": one below, and far below. */
    static void lateBelowTheEdge() {
        Run q = Run.with(10, 10, 3, 0, 9, 9);
        q.bothMarks(20).is(0);
        q.eventA(16, 1, 7).is(Run.LATE);
        q.eventA(-1000000000, 1, 7).is(Run.LATE);
    }

    /** "LATE (and one more is counted)", and nothing else changes. */
    static void lateIsCountedAlone() {
        Run q = Run.busy();
        q.countsAre(2, 1, 1, 14, 10, 1, 2, 1, 5);
        q.eventA(9, 1, 7).is(Run.LATE);
        q.countsAre(2, 1, 2, 14, 10, 1, 2, 1, 5);
        q.available().is(3);
        q.noLook(10, 1);
        q.lookIs(20, 1, 5, 1, 5);
        q.noEvent(0, 2);
    }

    /** "LATE .. below THE MARK", which is the lesser one: not late by one stream's mark alone. */
    static void notLateByOneMarkAlone() {
        Run q = Run.with(10, 10, 0, 0, 9, 9);
        q.markA(50).is(0);
        q.eventA(49, 1, 7).is(0);
        q = Run.with(10, 10, 0, 0, 9, 9);
        q.markB(50).is(0);
        q.eventA(49, 1, 7).is(0);
    }

    /** "LATE" at first: nothing is below -2000000000 less the greatest LATENESS. */
    static void notLateAtFirst() {
        Run q = Run.with(10, 10, 1000000, 1000000, 9, 9);
        q.eventA(-1000000000, 1, 7).is(0);
        q.count(2).is(0);
    }

    /** "The first of: .. LATE ..; FULL: ROOM EVENTS are KEPT". */
    static void lateComesBeforeFullRoom() {
        Run q = Run.with(10, 10, 0, 0, 1, 9);
        q.bothMarks(20).is(0);
        q.eventA(20, 1, 7).is(0);
        q.eventA(19, 1, 7).is(Run.LATE);
        q.count(2).is(1);
    }

    /** "The first of: .. LATE ..; FULL: .. THE QUEUE", with two events of B that would be near. */
    static void lateComesBeforeFullLine() {
        Run q = Run.with(10, 10, 0, 5, 9, 1);
        q.eventB(20, 1, 7).is(0);
        q.eventB(20, 1, 7).is(0);
        q.bothMarks(20).is(0);
        q.eventA(19, 1, 7).is(Run.LATE);
        q.eventA(20, 1, 7).is(Run.FULL);
        q.count(2).is(1);
    }

    /** "FULL: ROOM EVENTS are KEPT": of A alone, the last that has room and the next. */
    static void roomIsFullOfA() {
        Run q = Run.with(10, 10, 0, 0, 3, 9);
        q.eventA(1, 1, 7).is(0);
        q.eventA(2, 2, 7).is(0);
        q.eventA(3, 3, 7).is(0);
        q.eventA(4, 4, 7).is(Run.FULL);
    }

    /** "FULL: ROOM EVENTS are KEPT": of B alone. */
    static void roomIsFullOfB() {
        Run q = Run.with(10, 10, 0, 0, 2, 9);
        q.eventB(1, 1, 7).is(0);
        q.eventB(2, 2, 7).is(0);
        q.eventA(3, 3, 7).is(Run.FULL);
    }

    /** "FULL: ROOM EVENTS are KEPT": of A and B together. */
    static void roomIsFullOfBoth() {
        Run q = Run.with(10, 10, 0, 0, 2, 9);
        q.eventA(1, 1, 7).is(0);
        q.eventB(2, 2, 7).is(0);
        q.eventA(3, 3, 7).is(Run.FULL);
    }

    /** "FULL: ROOM EVENTS are KEPT": there is room again when one is not. */
    static void roomIsFreeAgain() {
        Run q = Run.with(10, 10, 0, 0, 1, 9);
        q.eventA(5, 1, 7).is(0);
        q.bothMarks(9).is(0);
        q.eventA(20, 1, 7).is(Run.FULL);
        q.bothMarks(10).is(1);
        q.eventA(20, 1, 7).is(0);
    }

    /** "FULL" by ROOM: refused, so that nothing has changed, nor is it gathered. */
    static void fullRoomChangesNothing() {
        Run q = Run.with(10, 10, 0, 2, 3, 9);
        q.eventA(5, 1, 7).is(0);
        q.eventB(5, 1, 7).is(1);
        q.eventA(15, 2, 8).is(0);
        String before = q.state();
        q.eventA(5, 1, 9).is(Run.FULL);
        q.stateIs(before);
    }

    /** "FULL: .. THE QUEUE would have more than LINE": just as many as LINE. */
    static void asManyAsLine() {
        Run q = Run.with(10, 10, 0, 0, 9, 2);
        q.eventB(1, 1, 7).is(0);
        q.eventB(1, 1, 8).is(0);
        q.eventA(1, 1, 9).is(2);
        q.available().is(2);
    }

    /** "FULL: .. THE QUEUE would have more than LINE": one more, from an empty queue and from a full one. */
    static void oneMoreThanLine() {
        Run q = Run.with(10, 10, 0, 0, 9, 2);
        q.eventB(1, 1, 7).is(0);
        q.eventB(1, 1, 8).is(0);
        q.eventB(1, 1, 9).is(0);
        q.eventA(1, 1, 9).is(Run.FULL);
        q.eventB(2, 1, 9).is(0);
        q.eventA(2, 1, 9).is(1);
        q.eventA(2, 1, 9).is(1);
        q.eventA(2, 1, 9).is(Run.FULL);
    }

    /** "THE QUEUE would have more than LINE": not if no PAIR comes, as full as it is. */
    static void fullQueueTakesAnEventWithoutPair() {
        Run q = Run.with(10, 10, 0, 0, 9, 1);
        q.eventB(1, 1, 7).is(0);
        q.eventA(1, 1, 8).is(1);
        q.eventA(1, 2, 9).is(0);
        q.count(0).is(2);
    }

    /** "THE QUEUE would have more than LINE": after a pop there is a place again. */
    static void popMakesAPlace() {
        Run q = Run.with(10, 10, 0, 0, 9, 1);
        q.eventB(1, 1, 7).is(0);
        q.eventA(1, 1, 8).is(1);
        q.eventA(1, 1, 9).is(Run.FULL);
        q.pop().is(1);
        q.eventA(1, 1, 9).is(1);
        q.recordIs(0, 2, 1, 1, 1, 9, 7);
    }

    /** "FULL" by LINE: refused, so that nothing has changed, nor is a part of the pairs told. */
    static void fullLineChangesNothing() {
        Run q = Run.with(10, 10, 0, 0, 9, 3);
        q.eventB(5, 1, 7).is(0);
        q.eventB(5, 1, 8).is(0);
        q.eventA(5, 1, 9).is(2);
        String before = q.state();
        q.eventA(5, 1, 10).is(Run.FULL);
        q.stateIs(before);
    }

    /** "how many RECORDS come": none, where B has no event, and where none has the KEY. */
    static void noPair() {
        Run q = Run.with(10, 10, 0, 5, 9, 9);
        q.eventA(1, 1, 7).is(0);
        q.eventB(1, 2, 7).is(0);
        q.eventA(1, 1, 7).is(0);
        q.available().is(0);
        q.count(6).is(0);
    }

    /** "one for each PAIR with it and those of B ..": A is not put together with A. */
    static void noPairOfTwoOfA() {
        Run q = Run.with(10, 10, 0, 5, 9, 9);
        q.eventA(1, 1, 7).is(0);
        q.eventA(1, 1, 8).is(0);
        q.available().is(0);
    }

    /** "one for each PAIR .. in their order": that in which they came, not that of their times. */
    static void pairsInTheOrderOfComing() {
        Run q = Run.with(10, 10, 0, 5, 9, 9);
        q.eventB(12, 1, 100).is(0);
        q.eventB(8, 1, 200).is(0);
        q.eventB(10, 2, 300).is(0);
        q.eventB(10, 1, 400).is(0);
        q.eventA(10, 1, -7).is(3);
        q.recordIs(0, 2, 10, 12, 1, -7, 100);
        q.recordIs(1, 2, 10, 8, 1, -7, 200);
        q.recordIs(2, 2, 10, 10, 1, -7, 400);
        q.noRecord(3);
    }

    /** "not more than SPAN apart": just SPAN, on both sides. */
    static void spanApart() {
        Run q = Run.with(10, 10, 0, 5, 9, 9);
        q.eventB(0, 1, 7).is(0);
        q.eventA(5, 1, 8).is(1);
        q.eventA(-5, 1, 9).is(1);
    }

    /** "not more than SPAN apart": one more, on both sides. */
    static void moreThanSpanApart() {
        Run q = Run.with(10, 10, 0, 5, 9, 9);
        q.eventB(0, 1, 7).is(0);
        q.eventA(6, 1, 8).is(0);
        q.eventA(-6, 1, 9).is(0);
    }

    /** "not more than SPAN apart": as far apart as TIMES can be, with the greatest SPAN. */
    static void asFarApartAsCanBe() {
        Run q = Run.with(10, 10, 0, 1000000, 9, 9);
        q.eventB(1000000000, 1, 7).is(0);
        q.eventA(-1000000000, 1, 8).is(0);
        q.eventB(-1000000000, 2, 7).is(0);
        q.eventA(1000000000, 2, 8).is(0);
    }

    /** "with the same KEY .. (any numbers)": the ends of the numbers are keys like others. */
    static void keysAtTheEnds() {
        Run q = Run.with(10, 10, 0, 0, 9, 9);
        q.eventB(0, Run.LEAST, 7).is(0);
        q.eventB(0, Run.MOST, 8).is(0);
        q.eventA(0, Run.MOST, 9).is(1);
        q.recordIs(0, 2, 0, 0, Run.MOST, 9, 8);
        q.eventA(0, Run.LEAST, 9).is(1);
        q.recordIs(1, 2, 0, 0, Run.LEAST, 9, 7);
        q.eventA(0, 0, 9).is(0);
    }

    /** "VALUE (any numbers)": also those of the constants and of the ends. */
    static void valuesAtTheEnds() {
        Run q = Run.with(10, 10, 0, 0, 9, 9);
        q.eventB(0, 1, Run.LEAST).is(0);
        q.eventA(0, 1, Run.MOST).is(1);
        q.recordIs(0, 2, 0, 0, 1, Run.MOST, Run.LEAST);
        q.eventA(0, 1, Run.FULL).is(1);
        q.recordIs(1, 2, 0, 0, 1, Run.FULL, Run.LEAST);
    }

    /** "those of B that are KEPT": the last TIME that is, with the first of A that is not late. */
    static void pairWithTheLastThatIsKept() {
        Run q = Run.with(10, 10, 2, 5, 9, 9);
        q.eventB(5, 1, 7).is(0);
        q.eventB(6, 1, 8).is(0);
        q.bothMarks(13).is(0);
        q.eventA(11, 1, 9).is(1);
        q.recordIs(0, 2, 11, 6, 1, 9, 8);
    }

    /** "of which the beginning is not above its TIME": the beginning itself is in. */
    static void windowTakesItsBeginning() {
        Run q = Run.with(10, 10, 0, 0, 9, 9);
        q.eventA(20, 1, 7).is(0);
        q.look(30, 1, 1).is(1);
        q.eventA(19, 1, 7).is(0);
        q.look(30, 1, 1).is(1);
    }

    /** "and the end is above it": the end itself is not in, the time before it is. */
    static void windowLeavesItsEnd() {
        Run q = Run.with(10, 10, 0, 0, 9, 9);
        q.eventA(30, 1, 7).is(0);
        q.look(30, 1, 1).is(0);
        q.eventA(29, 1, 7).is(0);
        q.look(30, 1, 1).is(1);
    }

    /** "WINDOWS begin at the multiples of SLIDE (also those below 0)". */
    static void windowsBelowZero() {
        Run q = Run.with(10, 4, 0, 0, 9, 9);
        q.eventA(-1, 1, 7).is(0);
        q.count(5).is(2);
        q.look(-2, 1, 1).is(0);
        q.look(2, 1, 1).is(1);
        q.look(6, 1, 1).is(1);
        q.look(10, 1, 1).is(0);
        q.eventA(-8, 1, 7).is(0);
        q.look(-6, 1, 1).is(1);
        q.look(-2, 1, 1).is(1);
        q.look(2, 1, 1).is(2);
        q.count(5).is(4);
    }

    /** "in all of which ..": with a WIDTH that is no multiple of SLIDE, not each TIME is in as many. */
    static void windowsThatLieUnevenly() {
        Run q = Run.with(10, 4, 0, 0, 9, 9);
        q.eventA(9, 1, 7).is(0);
        q.count(5).is(3);
        q.eventA(110, 1, 7).is(0);
        q.count(5).is(5);
        q.look(114, 1, 1).is(1);
        q.look(118, 1, 1).is(1);
    }

    /** "in all of which ..": 16 at most, at both ends of the TIMES with the greatest WIDTH. */
    static void sixteenWindowsAtTheEnds() {
        Run q = Run.with(1000000, 62500, 0, 0, 9, 9);
        q.eventA(-1000000000, 1, 7).is(0);
        q.count(5).is(16);
        q.look(-999937500, 1, 1).is(1);
        q.look(-999000000, 1, 1).is(1);
        q.eventA(1000000000, 1, 7).is(0);
        q.count(5).is(32);
        q.look(1000062500, 1, 1).is(1);
        q.look(1001000000, 1, 1).is(1);
        q.look(1000000000, 1, 1).is(0);
    }

    /** "the sum (32 bits)": wraps around above the greatest number and below the least. */
    static void sumWrapsAround() {
        Run q = Run.with(10, 10, 0, 0, 9, 9);
        q.eventA(1, 1, Run.MOST).is(0);
        q.eventA(1, 1, 1).is(0);
        q.look(10, 1, 0).is(Run.LEAST);
        q.eventA(1, 2, Run.LEAST).is(0);
        q.eventA(1, 2, -1).is(0);
        q.look(10, 2, 0).is(Run.MOST);
    }

    /** "the greatest VALUE": where all are below 0, and where the least number is alone. */
    static void greatestBelowZero() {
        Run q = Run.with(10, 10, 0, 0, 9, 9);
        q.eventA(1, 1, Run.LEAST).is(0);
        q.look(10, 1, 2).is(Run.LEAST);
        q.eventA(1, 1, -5).is(0);
        q.look(10, 1, 2).is(-5);
        q.eventA(1, 1, -6).is(0);
        q.look(10, 1, 2).is(-5);
    }

    /** An event at THE MARK less LATENESS is taken into the window that is next to be over. */
    static void lastTimeBeforeTheWindowIsOver() {
        Run q = Run.with(10, 5, 2, 0, 9, 9);
        q.bothMarks(11).is(0);
        q.eventA(9, 1, 7).is(0);
        q.look(10, 1, 1).is(1);
        q.look(15, 1, 1).is(1);
        q.bothMarks(12).is(1);
        q.eventA(10, 1, 8).is(0);
        q.look(10, 1, 1).is(0);
        q.look(15, 1, 1).is(2);
    }
}
