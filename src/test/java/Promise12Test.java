/** Promise 12, look: windows that are over, that have no events, that are none. */
final class Promise12Test {
    public static void main(String[] args) throws Exception {
        Sentences.testAll(Promise12Test.class);
    }

    /** "what = 0 the sum, 1 how many, 2 the greatest VALUE". */
    static void sumAndManyAndGreatest() {
        Run q = Run.with(10, 10, 0, 0, 9, 9);
        q.eventA(1, 1, 5).is(0);
        q.eventA(2, 1, 8).is(0);
        q.eventA(3, 1, -3).is(0);
        q.lookIs(10, 1, 10, 3, 8);
    }

    /** "what = 0 .., 1 .., 2 ..": another what has nothing to tell. */
    static void anotherWhat() {
        Run q = Run.with(10, 10, 0, 0, 9, 9);
        q.eventA(1, 1, 5).is(0);
        int[] others = {-1, 3, 4, Run.LEAST, Run.MOST};
        for (int what : others) {
            q.look(10, 1, what).is(0);
        }
    }

    /** "0 without EVENTS": nothing came. */
    static void nothingCame() {
        Run q = new Run();
        q.noLook(10, 0);
        q.noLook(0, 0);
        q.noLook(Run.LEAST, Run.LEAST);
        q.noLook(Run.MOST, Run.MOST);
    }

    /** "0 without EVENTS": the windows beside those that have some. */
    static void windowWithoutEvents() {
        Run q = Run.with(10, 5, 0, 0, 9, 9);
        q.eventA(7, 1, 5).is(0);
        q.noLook(5, 1);
        q.lookIs(10, 1, 5, 1, 5);
        q.lookIs(15, 1, 5, 1, 5);
        q.noLook(20, 1);
    }

    /** "0 without EVENTS": a KEY beside those that have some, also at the ends. */
    static void keyWithoutEvents() {
        Run q = Run.with(10, 10, 0, 0, 9, 9);
        q.eventA(7, 1, 5).is(0);
        q.noLook(10, 0);
        q.noLook(10, 2);
        q.noLook(10, Run.LEAST);
        q.noLook(10, Run.MOST);
    }

    /** "0 without EVENTS": those of B are in no window. */
    static void eventsOfBAlone() {
        Run q = Run.with(10, 10, 0, 0, 9, 9);
        q.eventB(7, 1, 5).is(0);
        q.noLook(10, 1);
    }

    /** "or if there is no such WINDOW": none ends beside the multiples of SLIDE and WIDTH. */
    static void noWindowEndsSo() {
        Run q = Run.with(10, 4, 0, 0, 9, 9);
        q.eventA(8, 1, 5).is(0);
        int[] ends = {10, 14, 18};
        for (int end : ends) {
            q.look(end, 1, 1).is(1);
            q.noLook(end - 1, 1);
            q.noLook(end + 1, 1);
            q.noLook(end + 2, 1);
        }
    }

    /** "or if there is no such WINDOW": ends beyond all TIMES, where the beginning would wrap around. */
    static void endsAtTheEndsOfTheNumbers() {
        Run q = Run.with(1000000, 62500, 0, 0, 9, 9);
        q.eventA(1000000000, 1, 5).is(0);
        q.eventA(-1000000000, 1, 5).is(0);
        q.noLook(Run.LEAST, 1);
        q.noLook(Run.MOST, 1);
        q.noLook(Run.LEAST + 1, 1);
        q.noLook(-1000000000, 1);
        q.noLook(1001062500, 1);
        q.look(1001000000, 1, 1).is(1);
        q.look(-999937500, 1, 1).is(1);
    }

    /** "or if there is no such WINDOW": the least end with the least KEY. */
    static void leastEndWithLeastKey() {
        Run q = Run.with(10, 10, 0, 0, 9, 9);
        q.eventA(-1000000000, Run.LEAST, 5).is(0);
        q.noLook(Run.LEAST, Run.LEAST);
        q.lookIs(-999999990, Run.LEAST, 5, 1, 5);
    }

    /** "which is not OVER": to the edge. */
    static void notOverBelowTheEdge() {
        Run q = Run.with(10, 10, 3, 0, 9, 9);
        q.eventA(7, 1, 5).is(0);
        q.bothMarks(12).is(0);
        q.lookIs(10, 1, 5, 1, 5);
    }

    /** "which is not OVER": over on the edge, though the event is still kept. */
    static void overOnTheEdge() {
        Run q = Run.with(10, 10, 3, 50, 9, 9);
        q.eventA(7, 1, 5).is(0);
        q.bothMarks(13).is(1);
        q.count(0).is(1);
        q.noLook(10, 1);
    }

    /** "which is not OVER": another window of the same event is not. */
    static void otherWindowOfTheSameEvent() {
        Run q = Run.with(10, 5, 0, 0, 9, 9);
        q.eventA(7, 1, 5).is(0);
        q.bothMarks(10).is(1);
        q.noLook(10, 1);
        q.lookIs(15, 1, 5, 1, 5);
    }

    /** "which is not OVER": a mark that finds the queue full leaves it so. */
    static void fullMarkLeavesIt() {
        Run q = Run.with(10, 10, 0, 0, 9, 1);
        q.eventA(7, 1, 5).is(0);
        q.eventA(7, 2, 6).is(0);
        q.markA(10).is(0);
        q.markB(10).is(Run.FULL);
        q.lookIs(10, 1, 5, 1, 5);
        q.lookIs(10, 2, 6, 1, 6);
    }

    /** "the sum (32 bits)": wraps around both ways. */
    static void sumWrapsAround() {
        Run q = Run.with(10, 10, 0, 0, 9, 9);
        q.eventA(1, 1, Run.MOST).is(0);
        q.eventA(1, 1, Run.MOST).is(0);
        q.lookIs(10, 1, -2, 2, Run.MOST);
        q.eventA(1, 2, Run.LEAST).is(0);
        q.eventA(1, 2, Run.LEAST).is(0);
        q.lookIs(10, 2, 0, 2, Run.LEAST);
    }

    /** "the greatest VALUE": below 0, where 0 would be greater. */
    static void greatestBelowZero() {
        Run q = Run.with(10, 10, 0, 0, 9, 9);
        q.eventA(1, 1, -7).is(0);
        q.eventA(1, 1, -9).is(0);
        q.lookIs(10, 1, -16, 2, -7);
    }

    /** "as they are now": with each event that is taken, and with none that is refused. */
    static void asTheyAreNow() {
        Run q = Run.with(10, 10, 0, 0, 3, 9);
        q.bothMarks(5).is(0);
        q.eventA(7, 1, 5).is(0);
        q.lookIs(10, 1, 5, 1, 5);
        q.eventA(4, 1, 100).is(Run.LATE);
        q.lookIs(10, 1, 5, 1, 5);
        q.eventA(8, 1, 6).is(0);
        q.lookIs(10, 1, 11, 2, 6);
        q.eventB(8, 2, 6).is(0);
        q.eventA(8, 1, 100).is(Run.FULL);
        q.lookIs(10, 1, 11, 2, 6);
    }

    /** As many events as ROOM can be, in one window. */
    static void fullRoomInOneWindow() {
        Run q = Run.with(10, 10, 0, 0, 200, 9);
        for (int n = 0; n < 200; n++) {
            q.eventA(n % 10, 1, n).is(0);
        }
        q.lookIs(10, 1, 19900, 200, 199);
    }
}
