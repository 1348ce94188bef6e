/** Promise 7, mark: "THE MARK is the lesser one", which a refused mark leaves. */
final class Promise07Test {
    public static void main(String[] args) throws Exception {
        Sentences.testAll(Promise07Test.class);
    }

    /** "Each stream has a MARK, at first -2000000000": also when one of them only has moved. */
    static void firstUntilBothHaveMoved() {
        Run q = new Run();
        q.mark().is(-2000000000);
        q.markA(5).is(0);
        q.mark().is(-2000000000);
        q = new Run();
        q.markB(5).is(0);
        q.mark().is(-2000000000);
    }

    /** "THE MARK is the lesser one": that of A. */
    static void lesserIsThatOfA() {
        Run q = new Run();
        q.markA(-8).is(0);
        q.markB(5).is(0);
        q.mark().is(-8);
    }

    /** "THE MARK is the lesser one": that of B. */
    static void lesserIsThatOfB() {
        Run q = new Run();
        q.markA(5).is(0);
        q.markB(-8).is(0);
        q.mark().is(-8);
    }

    /** "THE MARK is the lesser one": both are as much. */
    static void bothAreAsMuch() {
        Run q = new Run();
        q.bothMarks(7).is(0);
        q.mark().is(7);
    }

    /** "THE MARK is the lesser one": when the lesser passes the other. */
    static void lesserPassesTheOther() {
        Run q = new Run();
        q.bothMarks(5).is(0);
        q.markA(9).is(0);
        q.mark().is(5);
        q.markB(12).is(0);
        q.mark().is(9);
    }

    /** At both ends of the TIMES. */
    static void endsOfTheTimes() {
        Run q = new Run();
        q.bothMarks(-1000000000).is(0);
        q.mark().is(-1000000000);
        q.markA(1000000000).is(0);
        q.mark().is(-1000000000);
        q.markB(1000000000).is(0);
        q.mark().is(1000000000);
    }

    /** A mark that is BAD leaves THE MARK. */
    static void badLeavesIt() {
        Run q = new Run();
        q.bothMarks(5).is(0);
        q.markA(1000000001).is(Run.BAD);
        q.markB(1000000001).is(Run.BAD);
        q.markA(Run.LEAST).is(Run.BAD);
        q.mark().is(5);
    }

    /** A mark that is STALE leaves THE MARK. */
    static void staleLeavesIt() {
        Run q = new Run();
        q.bothMarks(5).is(0);
        q.markA(4).is(Run.STALE);
        q.markB(4).is(Run.STALE);
        q.mark().is(5);
    }

    /** A mark that finds THE QUEUE full leaves THE MARK. */
    static void fullLeavesIt() {
        Run q = Run.with(10, 10, 0, 0, 9, 1);
        q.eventA(5, 1, 1).is(0);
        q.eventA(5, 2, 1).is(0);
        q.bothMarks(3).is(0);
        q.markA(10).is(0);
        q.markB(10).is(Run.FULL);
        q.mark().is(3);
    }

    /** Events leave THE MARK, whatever their times. */
    static void eventsLeaveIt() {
        Run q = new Run();
        q.eventA(50, 1, 1).is(0);
        q.eventB(60, 1, 1).is(0);
        q.mark().is(-2000000000);
    }
}
