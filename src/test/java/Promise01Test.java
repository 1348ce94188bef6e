/** Promise 1, a new object: "First SETTINGS; nothing came." */
final class Promise01Test {
    public static void main(String[] args) throws Exception {
        Sentences.testAll(Promise01Test.class);
    }

    /** "At first 10, ..": WIDTH, seen at both edges of a window. */
    static void widthIsTen() {
        Run q = new Run();
        q.eventA(0, 1, 4).is(0);
        q.eventA(9, 1, 5).is(0);
        q.eventA(10, 1, 6).is(0);
        q.lookIs(10, 1, 9, 2, 5);
        q.lookIs(20, 1, 6, 1, 6);
    }

    /** "At first 10, 10, ..": SLIDE, so that each event is in one window. */
    static void slideIsTen() {
        Run q = new Run();
        q.eventA(9, 1, 4).is(0);
        q.count(5).is(1);
        q.eventA(10, 1, 4).is(0);
        q.count(5).is(2);
    }

    /** "At first .. 0, ..": LATENESS. */
    static void latenessIsNone() {
        Run q = new Run();
        q.bothMarks(9).is(0);
        q.eventA(8, 1, 1).is(Run.LATE);
        q.eventA(9, 1, 1).is(0);
        q.bothMarks(10).is(1);
    }

    /** "At first .. 0, ..": SPAN. */
    static void spanIsNone() {
        Run q = new Run();
        q.eventB(9, 1, 1).is(0);
        q.eventA(8, 1, 1).is(0);
        q.eventA(10, 1, 1).is(0);
        q.eventA(9, 1, 1).is(1);
    }

    /** "At first .. 100, ..": ROOM. */
    static void roomIsOneHundred() {
        Run q = new Run();
        for (int n = 0; n < 100; n++) {
            q.eventB(0, n, 0).is(0);
        }
        q.eventB(0, 100, 0).is(Run.FULL);
    }

    /** "At first .. 200": LINE. */
    static void lineIsTwoHundred() {
        Run q = new Run();
        for (int n = 0; n < 20; n++) {
            q.eventB(0, 0, n).is(0);
        }
        q.eventB(0, 1, 0).is(0);
        for (int n = 0; n < 10; n++) {
            q.eventA(0, 0, n).is(20);
        }
        q.available().is(200);
        q.eventA(0, 1, 0).is(Run.FULL);
    }

    /** "Each stream has a MARK, at first -2000000000". */
    static void marksAreAsAtFirst() {
        Run q = new Run();
        q.count(3).is(Run.FIRST_MARK);
        q.count(4).is(Run.FIRST_MARK);
        q.mark().is(Run.FIRST_MARK);
    }

    /** "nothing came": THE QUEUE is empty. */
    static void queueIsEmpty() {
        Run q = new Run();
        q.available().is(0);
        q.noRecord(0);
        q.pop().is(0);
    }

    /** "nothing came": no EVENT is KEPT. */
    static void noEventIsKept() {
        Run q = new Run();
        q.noEvent(0, 0);
        q.noEvent(1, 0);
        q.noLook(10, 0);
    }

    /** "nothing came": nothing is counted. */
    static void nothingIsCounted() {
        new Run().countsAre(0, 0, 0, Run.FIRST_MARK, Run.FIRST_MARK, 0, 0, 0, 0);
    }

    /** "nothing came", also where another object has taken much. */
    static void anotherObjectIsApart() {
        Run first = Run.busy();
        String before = first.state();
        Run second = new Run();
        second.countsAre(0, 0, 0, Run.FIRST_MARK, Run.FIRST_MARK, 0, 0, 0, 0);
        second.available().is(0);
        second.eventA(15, 2, 9).is(0);
        second.set(5, 5, 5, 5, 5, 5).is(0);
        first.stateIs(before);
    }
}
