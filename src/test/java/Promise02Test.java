/** Promise 2, set: the bounds of each of the SETTINGS, what a refused set leaves, what a set clears. */
final class Promise02Test {
    public static void main(String[] args) throws Exception {
        Sentences.testAll(Promise02Test.class);
    }

    /** "WIDTH 1 .. 1000000": the least, with windows of one time. */
    static void leastWidth() {
        Run q = Run.with(1, 1, 0, 0, 9, 9);
        q.eventA(0, 1, 7).is(0);
        q.count(5).is(1);
        q.look(1, 1, 1).is(1);
    }

    /** "WIDTH 1 .. 1000000": too small. */
    static void widthTooSmall() {
        Run q = new Run();
        q.set(0, 1, 0, 0, 9, 9).is(Run.BAD);
        q.set(0, 0, 0, 0, 9, 9).is(Run.BAD);
        q.set(-1, -1, 0, 0, 9, 9).is(Run.BAD);
        q.set(-1, 1, 0, 0, 9, 9).is(Run.BAD);
        q.set(Run.LEAST, 1, 0, 0, 9, 9).is(Run.BAD);
        q.set(Run.LEAST, Run.LEAST, 0, 0, 9, 9).is(Run.BAD);
    }

    /** "WIDTH 1 .. 1000000": the greatest. */
    static void greatestWidth() {
        Run q = Run.with(1000000, 1000000, 0, 0, 9, 9);
        q.eventA(999999, 1, 7).is(0);
        q.eventA(1000000, 1, 8).is(0);
        q.look(1000000, 1, 0).is(7);
        q.look(2000000, 1, 0).is(8);
    }

    /** "WIDTH 1 .. 1000000": too large. */
    static void widthTooLarge() {
        Run q = new Run();
        q.set(1000001, 1000000, 0, 0, 9, 9).is(Run.BAD);
        q.set(1000001, 1000001, 0, 0, 9, 9).is(Run.BAD);
        q.set(1000001, 62501, 0, 0, 9, 9).is(Run.BAD);
        q.set(Run.MOST, Run.MOST, 0, 0, 9, 9).is(Run.BAD);
        q.set(Run.MOST, 1000000, 0, 0, 9, 9).is(Run.BAD);
    }

    /** "SLIDE 1 .. WIDTH": the least. */
    static void leastSlide() {
        Run q = Run.with(2, 1, 0, 0, 9, 9);
        q.eventA(0, 1, 7).is(0);
        q.look(1, 1, 1).is(1);
        q.look(2, 1, 1).is(1);
        q.count(5).is(2);
    }

    /** "SLIDE 1 .. WIDTH": too small. */
    static void slideTooSmall() {
        Run q = new Run();
        q.set(1, 0, 0, 0, 9, 9).is(Run.BAD);
        q.set(10, 0, 0, 0, 9, 9).is(Run.BAD);
        q.set(10, -1, 0, 0, 9, 9).is(Run.BAD);
        q.set(10, -10, 0, 0, 9, 9).is(Run.BAD);
        q.set(10, Run.LEAST, 0, 0, 9, 9).is(Run.BAD);
    }

    /** "SLIDE 1 .. WIDTH": as large as WIDTH. */
    static void slideAsLargeAsWidth() {
        Run q = new Run();
        q.set(7, 7, 0, 0, 9, 9).is(0);
        q.eventA(6, 1, 1).is(0);
        q.count(5).is(1);
        q.look(7, 1, 1).is(1);
    }

    /** "SLIDE 1 .. WIDTH": larger than WIDTH. */
    static void slideTooLarge() {
        Run q = new Run();
        q.set(1, 2, 0, 0, 9, 9).is(Run.BAD);
        q.set(7, 8, 0, 0, 9, 9).is(Run.BAD);
        q.set(1000000, 1000001, 0, 0, 9, 9).is(Run.BAD);
        q.set(10, Run.MOST, 0, 0, 9, 9).is(Run.BAD);
    }

    /** "WIDTH being at most 16 times SLIDE": just so many, and each event in 16 windows. */
    static void widthSixteenTimesSlide() {
        Run q = new Run();
        q.set(16, 1, 0, 0, 9, 9).is(0);
        q.set(1000000, 62500, 0, 0, 9, 9).is(0);
        q.set(32, 2, 0, 0, 9, 9).is(0);
        q.eventA(1, 1, 1).is(0);
        q.count(5).is(16);
    }

    /** "WIDTH being at most 16 times SLIDE": one more. */
    static void widthAboveSixteenTimesSlide() {
        Run q = new Run();
        q.set(17, 1, 0, 0, 9, 9).is(Run.BAD);
        q.set(33, 2, 0, 0, 9, 9).is(Run.BAD);
        q.set(1000000, 62499, 0, 0, 9, 9).is(Run.BAD);
    }

    /** "WIDTH being at most 16 times SLIDE": where 16 times SLIDE wraps around. */
    static void sixteenTimesSlideWrapsAround() {
        Run q = new Run();
        q.set(10, 1 << 28, 0, 0, 9, 9).is(Run.BAD);
        q.set(16, (1 << 28) + 1, 0, 0, 9, 9).is(Run.BAD);
        q.set(Run.MOST, 1 << 27, 0, 0, 9, 9).is(Run.BAD);
        q.set(16, (1 << 28) + 1 - (1 << 30), 0, 0, 9, 9).is(Run.BAD);
    }

    /** "LATENESS .. 0 .. 1000000": the least. */
    static void leastLateness() {
        Run q = Run.with(10, 10, 0, 0, 9, 9);
        q.bothMarks(5).is(0);
        q.eventB(5, 1, 1).is(0);
        q.eventB(4, 1, 1).is(Run.LATE);
    }

    /** "LATENESS .. 0 .. 1000000": too small. */
    static void latenessTooSmall() {
        Run q = new Run();
        q.set(10, 10, -1, 0, 9, 9).is(Run.BAD);
        q.set(10, 10, Run.LEAST, 0, 9, 9).is(Run.BAD);
    }

    /** "LATENESS .. 0 .. 1000000": the greatest. */
    static void greatestLateness() {
        Run q = Run.with(10, 10, 1000000, 0, 9, 9);
        q.bothMarks(5).is(0);
        q.eventB(-999995, 1, 1).is(0);
        q.eventB(-999996, 1, 1).is(Run.LATE);
    }

    /** "LATENESS .. 0 .. 1000000": too large. */
    static void latenessTooLarge() {
        Run q = new Run();
        q.set(10, 10, 1000001, 0, 9, 9).is(Run.BAD);
        q.set(10, 10, Run.MOST, 0, 9, 9).is(Run.BAD);
    }

    /** "SPAN 0 .. 1000000": the least. */
    static void leastSpan() {
        Run q = Run.with(10, 10, 0, 0, 9, 9);
        q.eventB(5, 1, 1).is(0);
        q.eventA(5, 1, 1).is(1);
        q.eventA(6, 1, 1).is(0);
    }

    /** "SPAN 0 .. 1000000": too small. */
    static void spanTooSmall() {
        Run q = new Run();
        q.set(10, 10, 0, -1, 9, 9).is(Run.BAD);
        q.set(10, 10, 0, Run.LEAST, 9, 9).is(Run.BAD);
    }

    /** "SPAN 0 .. 1000000": the greatest. */
    static void greatestSpan() {
        Run q = Run.with(10, 10, 0, 1000000, 9, 9);
        q.eventB(5, 1, 1).is(0);
        q.eventA(1000005, 1, 1).is(1);
        q.eventA(1000006, 1, 1).is(0);
    }

    /** "SPAN 0 .. 1000000": too large. */
    static void spanTooLarge() {
        Run q = new Run();
        q.set(10, 10, 0, 1000001, 9, 9).is(Run.BAD);
        q.set(10, 10, 0, Run.MOST, 9, 9).is(Run.BAD);
    }

    /** "ROOM 1 .. 200": the least. */
    static void leastRoom() {
        Run q = Run.with(10, 10, 0, 0, 1, 9);
        q.eventA(1, 1, 1).is(0);
        q.eventA(1, 1, 1).is(Run.FULL);
    }

    /** "ROOM 1 .. 200": too small. */
    static void roomTooSmall() {
        Run q = new Run();
        q.set(10, 10, 0, 0, 0, 9).is(Run.BAD);
        q.set(10, 10, 0, 0, -1, 9).is(Run.BAD);
        q.set(10, 10, 0, 0, Run.LEAST, 9).is(Run.BAD);
    }

    /** "ROOM 1 .. 200": the greatest. */
    static void greatestRoom() {
        Run q = Run.with(10, 10, 0, 0, 200, 9);
        for (int n = 0; n < 200; n++) {
            q.eventA(n, n, n).is(0);
        }
        q.eventA(0, 0, 0).is(Run.FULL);
        q.count(0).is(200);
    }

    /** "ROOM 1 .. 200": too large. */
    static void roomTooLarge() {
        Run q = new Run();
        q.set(10, 10, 0, 0, 201, 9).is(Run.BAD);
        q.set(10, 10, 0, 0, Run.MOST, 9).is(Run.BAD);
    }

    /** "LINE 1 .. 400": the least. */
    static void leastLine() {
        Run q = Run.with(10, 10, 0, 0, 9, 1);
        q.eventA(1, 1, 1).is(0);
        q.eventB(1, 1, 1).is(1);
        q.eventB(1, 1, 1).is(Run.FULL);
    }

    /** "LINE 1 .. 400": too small. */
    static void lineTooSmall() {
        Run q = new Run();
        q.set(10, 10, 0, 0, 9, 0).is(Run.BAD);
        q.set(10, 10, 0, 0, 9, -1).is(Run.BAD);
        q.set(10, 10, 0, 0, 9, Run.LEAST).is(Run.BAD);
    }

    /** "LINE 1 .. 400": the greatest. */
    static void greatestLine() {
        Run q = Run.with(10, 10, 0, 0, 200, 400);
        for (int n = 0; n < 20; n++) {
            q.eventB(0, 0, n).is(0);
        }
        q.eventB(0, 1, 0).is(0);
        for (int n = 0; n < 20; n++) {
            q.eventA(0, 0, n).is(20);
        }
        q.available().is(400);
        q.eventA(0, 1, 0).is(Run.FULL);
    }

    /** "LINE 1 .. 400": too large. */
    static void lineTooLarge() {
        Run q = new Run();
        q.set(10, 10, 0, 0, 9, 401).is(Run.BAD);
        q.set(10, 10, 0, 0, 9, Run.MOST).is(Run.BAD);
    }

    /** "SETTINGS ..: 0", all at their least and all at their greatest. */
    static void allAtTheirEnds() {
        Run q = new Run();
        q.set(1, 1, 0, 0, 1, 1).is(0);
        q.set(1000000, 1000000, 1000000, 1000000, 200, 400).is(0);
    }

    /** "BAD, and all stays": what came stays. */
    static void refusedSetLeavesWhatCame() {
        Run q = Run.busy();
        String before = q.state();
        q.set(0, 5, 5, 5, 5, 5).is(Run.BAD);
        q.set(5, 6, 5, 5, 5, 5).is(Run.BAD);
        q.set(5, 5, -1, 5, 5, 5).is(Run.BAD);
        q.set(5, 5, 5, -1, 5, 5).is(Run.BAD);
        q.set(5, 5, 5, 5, 0, 5).is(Run.BAD);
        q.set(5, 5, 5, 5, 5, 0).is(Run.BAD);
        q.stateIs(before);
    }

    /** "BAD, and all stays": WIDTH and SLIDE stay, though they are good themselves. */
    static void refusedSetLeavesWindows() {
        Run q = Run.with(10, 10, 0, 0, 9, 9);
        q.set(6, 3, 0, 0, 9, 401).is(Run.BAD);
        q.eventA(5, 1, 1).is(0);
        q.count(5).is(1);
        q.look(10, 1, 1).is(1);
    }

    /** "BAD, and all stays": LATENESS stays. */
    static void refusedSetLeavesLateness() {
        Run q = Run.with(10, 10, 2, 0, 9, 9);
        q.set(10, 10, 5, 0, 9, 401).is(Run.BAD);
        q.bothMarks(10).is(0);
        q.eventB(7, 1, 1).is(Run.LATE);
        q.eventB(8, 1, 1).is(0);
    }

    /** "BAD, and all stays": SPAN stays. */
    static void refusedSetLeavesSpan() {
        Run q = Run.with(10, 10, 0, 2, 9, 9);
        q.set(10, 10, 0, 5, 9, 401).is(Run.BAD);
        q.eventA(1, 1, 1).is(0);
        q.eventB(4, 1, 1).is(0);
        q.eventB(3, 1, 1).is(1);
    }

    /** "BAD, and all stays": ROOM stays. */
    static void refusedSetLeavesRoom() {
        Run q = Run.with(10, 10, 0, 0, 2, 9);
        q.set(10, 10, 0, 0, 9, 401).is(Run.BAD);
        q.eventA(1, 1, 1).is(0);
        q.eventA(1, 1, 1).is(0);
        q.eventA(1, 1, 1).is(Run.FULL);
    }

    /** "BAD, and all stays": LINE stays. */
    static void refusedSetLeavesLine() {
        Run q = Run.with(10, 10, 0, 0, 9, 2);
        q.set(0, 10, 0, 0, 9, 9).is(Run.BAD);
        q.eventA(1, 1, 1).is(0);
        q.eventB(1, 1, 1).is(1);
        q.eventB(1, 1, 1).is(1);
        q.eventB(1, 1, 1).is(Run.FULL);
    }

    /** "all is as at first": THE QUEUE is empty. */
    static void setEmptiesTheQueue() {
        Run q = Run.busy();
        q.set(10, 10, 0, 2, 6, 5).is(0);
        q.available().is(0);
        q.noRecord(0);
        q.noRecord(2);
        q.pop().is(0);
    }

    /** "all is as at first": no EVENT is KEPT, of A or of B. */
    static void setDropsEvents() {
        Run q = Run.busy();
        q.set(10, 10, 0, 2, 6, 5).is(0);
        q.noEvent(0, 0);
        q.noEvent(1, 0);
        q.eventA(13, 1, 1).is(0);
        q.eventB(15, 2, 1).is(0);
    }

    /** "all is as at first": windows have no EVENTS, and sums begin again. */
    static void setDropsWindows() {
        Run q = Run.busy();
        q.set(10, 10, 0, 2, 6, 5).is(0);
        q.noLook(20, 1);
        q.noLook(20, 2);
        q.eventA(12, 1, 3).is(0);
        q.lookIs(20, 1, 3, 1, 3);
    }

    /** "all is as at first": the MARKS, so that nothing is late or stale. */
    static void setMovesMarksBack() {
        Run q = Run.busy();
        q.set(10, 10, 0, 2, 6, 5).is(0);
        q.mark().is(Run.FIRST_MARK);
        q.eventA(Run.LEAST_TIME, 1, 1).is(0);
        q.markA(Run.LEAST_TIME).is(0);
        q.markB(Run.LEAST_TIME).is(0);
    }

    /** "all is as at first": nothing is counted. */
    static void setClearsCounts() {
        Run q = Run.busy();
        q.set(10, 10, 0, 2, 6, 5).is(0);
        q.countsAre(0, 0, 0, Run.FIRST_MARK, Run.FIRST_MARK, 0, 0, 0, 0);
    }

    /** "all is as at first": a full room and a full line are empty. */
    static void setMakesRoom() {
        Run q = Run.with(10, 10, 0, 0, 2, 1);
        q.eventA(1, 1, 1).is(0);
        q.eventB(1, 1, 1).is(1);
        q.eventB(1, 1, 1).is(Run.FULL);
        q.set(10, 10, 0, 0, 2, 1).is(0);
        q.eventA(1, 1, 1).is(0);
        q.eventB(1, 1, 1).is(1);
    }

    /** "all is as at first but for them": the new SETTINGS hold, each of them. */
    static void setMakesItsSettingsHold() {
        Run q = Run.busy();
        q.set(6, 3, 2, 1, 3, 2).is(0);
        q.eventA(3, 1, 5).is(0);
        q.count(5).is(2);
        q.look(6, 1, 0).is(5);
        q.look(9, 1, 0).is(5);
        q.eventB(4, 1, 0).is(1);
        q.eventB(5, 1, 0).is(0);
        q.eventB(5, 2, 0).is(Run.FULL);
        q.bothMarks(7).is(0);
        q.bothMarks(8).is(1);
        q.markA(11).is(0);
        q.markB(11).is(Run.FULL);
    }
}
