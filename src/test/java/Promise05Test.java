/** Promise 5, markA: what it refuses and in which order, which windows it tells and how, which events go. */
final class Promise05Test {
    public static void main(String[] args) throws Exception {
        Sentences.testAll(Promise05Test.class);
    }

    /** B's mark is as far as can be, so that A's mark is THE MARK. */
    private static Run markedByA(int width, int slide, int lateness, int span, int room, int line) {
        Run q = Run.with(width, slide, lateness, span, room, line);
        q.markB(Run.GREATEST_TIME).is(0);
        return q;
    }

    /** LINE is 2, one record waits, and the window that ends at 20 has two keys. */
    private static Run fullAtTwenty() {
        Run q = markedByA(10, 10, 0, 0, 9, 2);
        q.eventA(5, 1, 1).is(0);
        q.markA(10).is(1);
        q.eventA(15, 1, 2).is(0);
        q.eventA(16, 2, 3).is(0);
        q.eventB(25, 1, 4).is(0);
        return q;
    }

    /** "TIMES are -1000000000 .. 1000000000": the least. */
    static void leastTime() {
        Run q = new Run();
        q.markA(-1000000000).is(0);
        q.count(3).is(-1000000000);
    }

    /** "BAD: TIME": too small, though above the first mark. */
    static void timeTooSmall() {
        Run q = new Run();
        q.markA(-1000000001).is(Run.BAD);
        q.markA(Run.FIRST_MARK).is(Run.BAD);
        q.markA(Run.LEAST).is(Run.BAD);
    }

    /** "TIMES are -1000000000 .. 1000000000": the greatest. */
    static void greatestTime() {
        Run q = new Run();
        q.markA(1000000000).is(0);
        q.count(3).is(1000000000);
    }

    /** "BAD: TIME": too large. */
    static void timeTooLarge() {
        Run q = new Run();
        q.markA(1000000001).is(Run.BAD);
        q.markA(Run.MOST).is(Run.BAD);
    }

    /** "BAD": refused, so that nothing has changed. */
    static void badChangesNothing() {
        Run q = Run.busy();
        String before = q.state();
        q.markA(-1000000001).is(Run.BAD);
        q.markA(1000000001).is(Run.BAD);
        q.stateIs(before);
    }

    /** "The first of: BAD ..; STALE". */
    static void badComesBeforeStale() {
        Run q = new Run();
        q.markA(5).is(0);
        q.markA(-1000000001).is(Run.BAD);
    }

    /** "The first of: BAD ..; FULL". */
    static void badComesBeforeFull() {
        Run q = fullAtTwenty();
        q.markA(1000000001).is(Run.BAD);
    }

    /** "STALE: it is not above what it is": as it is. */
    static void staleAsItIs() {
        Run q = new Run();
        q.markA(5).is(0);
        q.markA(5).is(Run.STALE);
    }

    /** "STALE: it is not above what it is": below. */
    static void staleBelow() {
        Run q = new Run();
        q.markA(5).is(0);
        q.markA(4).is(Run.STALE);
        q.markA(-1000000000).is(Run.STALE);
    }

    /** "STALE: it is not above what it is": one above is not. */
    static void notStaleOneAbove() {
        Run q = new Run();
        q.markA(5).is(0);
        q.markA(6).is(0);
        q.count(3).is(6);
    }

    /** "STALE", at both ends of the TIMES. */
    static void staleAtTheEnds() {
        Run q = new Run();
        q.markA(-1000000000).is(0);
        q.markA(-1000000000).is(Run.STALE);
        q.markA(1000000000).is(0);
        q.markA(1000000000).is(Run.STALE);
    }

    /** "The MARK of A": stale by A's own mark, not by B's and not by THE MARK. */
    static void staleByItsOwnMark() {
        Run q = new Run();
        q.markB(50).is(0);
        q.markA(5).is(0);
        q.markA(3).is(Run.STALE);
        q = new Run();
        q.markB(3).is(0);
        q.markA(5).is(0);
        q.markA(4).is(Run.STALE);
    }

    /** "STALE": refused, so that nothing has changed. */
    static void staleChangesNothing() {
        Run q = Run.busy();
        String before = q.state();
        q.markA(14).is(Run.STALE);
        q.markA(12).is(Run.STALE);
        q.stateIs(before);
    }

    /** "The first of: .. STALE ..; FULL": with windows that wait for a place, and with a queue that has none. */
    static void staleComesBeforeFull() {
        Run q = fullAtTwenty();
        q.markA(20).is(Run.FULL);
        q.markA(10).is(Run.STALE);
        q.pop().is(1);
        q.markA(20).is(1);
        q.available().is(2);
        q.markA(20).is(Run.STALE);
    }

    /** "FULL ..: THE QUEUE would have more than LINE". */
    static void oneMoreThanLine() {
        Run q = fullAtTwenty();
        q.markA(20).is(Run.FULL);
        q.markA(1000000000).is(Run.FULL);
    }

    /** "FULL ..: THE QUEUE would have more than LINE": just as many as LINE. */
    static void asManyAsLine() {
        Run q = fullAtTwenty();
        q.pop().is(1);
        q.markA(20).is(1);
        q.available().is(2);
    }

    /** "FULL, and nothing is done". */
    static void fullDoesNothing() {
        Run q = fullAtTwenty();
        String before = q.state();
        q.markA(20).is(Run.FULL);
        q.stateIs(before);
    }

    /** "FULL, and nothing is done": of several windows not even the first, which would have a place. */
    static void fullTellsNoPart() {
        Run q = markedByA(10, 10, 0, 0, 9, 1);
        q.eventA(5, 1, 1).is(0);
        q.eventA(15, 1, 2).is(0);
        String before = q.state();
        q.markA(20).is(Run.FULL);
        q.stateIs(before);
        q.markA(10).is(1);
        q.recordIs(0, 1, 10, 1, 1, 1, 1);
    }

    /** "FULL": not if no window becomes over, as full as the queue is; the mark moves. */
    static void fullQueueLetsTheMarkMove() {
        Run q = markedByA(10, 10, 0, 0, 9, 1);
        q.eventA(5, 1, 1).is(0);
        q.markA(10).is(1);
        q.eventA(15, 1, 2).is(0);
        q.markA(19).is(0);
        q.count(3).is(19);
        q.markA(20).is(Run.FULL);
    }

    /** "FULL" with the greatest LINE: 400 records at once, and one more. */
    static void greatestLine() {
        Run q = Run.with(16, 1, 0, 0, 26, 400);
        q.markB(Run.GREATEST_TIME).is(0);
        for (int n = 0; n < 26; n++) {
            q.eventA(16 * n, n, n).is(0);
        }
        q.markA(401).is(Run.FULL);
        q.markA(400).is(400);
        q.available().is(400);
        q.recordIs(399, 1, 400, 24, 24, 1, 24);
    }

    /** "how many WINDOWS become OVER that have EVENTS": those without are not counted. */
    static void windowsWithoutEvents() {
        Run q = markedByA(10, 10, 0, 0, 9, 9);
        q.markA(-1000000000).is(0);
        q.markA(0).is(0);
        q.eventA(5, 1, 1).is(0);
        q.eventA(95, 1, 1).is(0);
        q.markA(200).is(2);
        q.markA(1000000000).is(0);
        q.available().is(2);
    }

    /** "how many WINDOWS", not how many records: two keys in one window. */
    static void windowsAreCountedNotRecords() {
        Run q = markedByA(10, 10, 0, 0, 9, 9);
        q.eventA(5, 1, 1).is(0);
        q.eventA(5, 2, 1).is(0);
        q.markA(10).is(1);
        q.available().is(2);
    }

    /** "OVER when its end and LATENESS are not above THE MARK": just not above. */
    static void overOnTheEdge() {
        Run q = markedByA(10, 10, 3, 0, 9, 9);
        q.eventA(5, 1, 1).is(0);
        q.markA(13).is(1);
        q.available().is(1);
    }

    /** "OVER when its end and LATENESS are not above THE MARK": one above. */
    static void notOverBelowTheEdge() {
        Run q = markedByA(10, 10, 3, 0, 9, 9);
        q.eventA(5, 1, 1).is(0);
        q.markA(12).is(0);
        q.available().is(0);
        q.look(10, 1, 1).is(1);
    }

    /** "OVER .. THE MARK", which is the lesser one: A's mark alone tells nothing. */
    static void notOverByOneMarkAlone() {
        Run q = Run.with(10, 10, 0, 0, 9, 9);
        q.eventA(5, 1, 1).is(0);
        q.markA(10).is(0);
        q.markA(1000000000).is(0);
        q.available().is(0);
        q.count(0).is(1);
    }

    /** "OVER", at both ends of the TIMES: a window below the least, and one that ends above the greatest. */
    static void overAtTheEnds() {
        Run q = markedByA(10, 4, 0, 0, 9, 99);
        q.eventA(-1000000000, 1, 1).is(0);
        q.eventA(1000000000, 1, 1).is(0);
        q.markA(-1000000000).is(0);
        q.markA(-999999999).is(0);
        q.markA(-999999998).is(1);
        q.recordIs(0, 1, -999999998, 1, 1, 1, 1);
        q.markA(1000000000).is(2);
        q.count(5).is(3);
    }

    /** "RECORDS come of each of them .. by the end": not in the order of coming. */
    static void tellsByTheEnd() {
        Run q = markedByA(4, 2, 0, 0, 9, 9);
        q.eventA(7, 0, 70).is(0);
        q.eventA(-3, 9, 30).is(0);
        q.markA(100).is(4);
        q.recordIs(0, 1, -2, 9, 30, 1, 30);
        q.recordIs(1, 1, 0, 9, 30, 1, 30);
        q.recordIs(2, 1, 8, 0, 70, 1, 70);
        q.recordIs(3, 1, 10, 0, 70, 1, 70);
    }

    /** "then by the KEY, rising": with keys below 0 and at the ends of the numbers. */
    static void tellsByTheKey() {
        Run q = markedByA(10, 10, 0, 0, 9, 9);
        int[] keys = {0, Run.MOST, -1, Run.LEAST, 1};
        for (int key : keys) {
            q.eventA(5, key, 7).is(0);
        }
        q.markA(10).is(1);
        int[] rising = {Run.LEAST, -1, 0, 1, Run.MOST};
        for (int i = 0; i < rising.length; i++) {
            q.recordIs(i, 1, 10, rising[i], 7, 1, 7);
        }
    }

    /** "of the EVENTS of A in it with that KEY the sum (32 bits)": it wraps around; "the greatest VALUE". */
    static void tellsASumThatWrapsAround() {
        Run q = markedByA(10, 10, 0, 0, 9, 9);
        q.eventA(5, 1, Run.LEAST).is(0);
        q.eventA(5, 1, -1).is(0);
        q.eventA(5, 2, Run.MOST).is(0);
        q.eventA(5, 2, Run.MOST).is(0);
        q.markA(10).is(1);
        q.recordIs(0, 1, 10, 1, Run.MOST, 2, -1);
        q.recordIs(1, 1, 10, 2, -2, 2, Run.MOST);
    }

    /** "become OVER": a window is told once. */
    static void tellsOnce() {
        Run q = markedByA(10, 5, 0, 0, 9, 9);
        q.eventA(7, 1, 1).is(0);
        q.markA(10).is(1);
        q.markA(11).is(0);
        q.markA(15).is(1);
        q.markA(20).is(0);
        q.available().is(2);
    }

    /** "KEPT .. as long as its TIME and SPAN are not below THE MARK less LATENESS": just not below, and one more. */
    static void eventOfBGoes() {
        Run q = markedByA(10, 10, 3, 4, 9, 9);
        q.eventB(5, 1, 1).is(0);
        q.markA(12).is(0);
        q.count(1).is(1);
        q.markA(13).is(0);
        q.count(1).is(0);
        q.noEvent(1, 0);
    }

    /** "KEPT ..": an event of A that is in no window any more, by its TIME and SPAN. */
    static void eventOfAGoesBySpan() {
        Run q = markedByA(1, 1, 3, 4, 9, 9);
        q.eventA(5, 1, 1).is(0);
        q.markA(9).is(1);
        q.count(0).is(1);
        q.markA(12).is(0);
        q.count(0).is(1);
        q.markA(13).is(0);
        q.count(0).is(0);
    }

    /** "of A also as long as some of its WINDOWS is not OVER": the last of them, to its edge. */
    static void eventOfAGoesByItsWindows() {
        Run q = markedByA(10, 5, 3, 0, 9, 9);
        q.eventA(7, 1, 1).is(0);
        q.markA(13).is(1);
        q.count(0).is(1);
        q.markA(17).is(0);
        q.count(0).is(1);
        q.markA(18).is(1);
        q.count(0).is(0);
    }

    /** "of A also ..": where the first window that is not over begins at the event's TIME, and one before it. */
    static void eventOfAAtTheBeginning() {
        Run q = markedByA(10, 10, 0, 0, 9, 9);
        q.eventA(10, 1, 1).is(0);
        q.eventA(9, 1, 1).is(0);
        q.markA(11).is(1);
        q.count(0).is(1);
        q.eventIs(0, 0, 10, 1, 1);
    }

    /** "of A also ..": one of B does not stay by a window. */
    static void eventOfBHasNoWindow() {
        Run q = markedByA(10, 10, 0, 0, 9, 9);
        q.eventA(5, 1, 1).is(0);
        q.eventB(5, 2, 1).is(0);
        q.markA(6).is(0);
        q.countsAre(1, 0);
    }

    /** "KEPT .. THE MARK", which is the lesser one: A's mark alone lets none go. */
    static void noneGoesByOneMarkAlone() {
        Run q = Run.with(1, 1, 0, 0, 9, 9);
        q.eventA(5, 1, 1).is(0);
        q.eventB(5, 2, 1).is(0);
        q.markA(1000000000).is(0);
        q.countsAre(1, 1);
    }

    /** "KEPT", with the greatest LATENESS, SPAN and WIDTH at the least TIME: nothing wraps around. */
    static void noneGoesAtTheLeastTime() {
        Run q = markedByA(1000000, 62500, 1000000, 1000000, 9, 9);
        q.eventA(-1000000000, 1, 1).is(0);
        q.eventB(-1000000000, 2, 1).is(0);
        q.markA(-1000000000).is(0);
        q.countsAre(1, 1, 0, -1000000000, 1000000000, 16);
    }

    /** "then EVENTS go": first they are told, with all their values. */
    static void toldBeforeTheyGo() {
        Run q = markedByA(10, 10, 0, 0, 9, 9);
        q.eventA(1, 1, 3).is(0);
        q.eventA(2, 1, 4).is(0);
        q.markA(500).is(1);
        q.recordIs(0, 1, 10, 1, 7, 2, 4);
        q.count(0).is(0);
    }

    /** "then EVENTS go": the others stay in the order in which they came. */
    static void othersStayInTheirOrder() {
        Run q = markedByA(10, 10, 0, 0, 9, 9);
        q.eventA(31, 1, 1).is(0);
        q.eventA(2, 2, 2).is(0);
        q.eventA(22, 3, 3).is(0);
        q.eventB(40, 4, 4).is(0);
        q.eventB(3, 5, 5).is(0);
        q.eventB(30, 6, 6).is(0);
        q.markA(20).is(1);
        q.countsAre(2, 2);
        q.eventIs(0, 0, 31, 1, 1);
        q.eventIs(0, 1, 22, 3, 3);
        q.noEvent(0, 2);
        q.eventIs(1, 0, 40, 4, 4);
        q.eventIs(1, 1, 30, 6, 6);
        q.noEvent(1, 2);
    }
}
