/** Each Story is what its words say, so that the tests that are built on it test what they mean to. */
public final class StoryTest {
    private static final Check CHECK = new Check("StoryTest");

    public static void main(String[] args) {
        counts(Story.NEW, 0, 0, 0, 0, 0, 0, 60);
        counts(Story.WAITING, 4, 3, 2, 3, 2, 0, 60);
        counts(Story.RING, 3, 2, 2, 4, 2, 1, 60);
        counts(Story.LATE, 12, 3, 2, 0, 0, 0, 60);
        counts(Story.FULL, 2, 4, 0, 6, 0, 2, 60);
        counts(Story.AT_LAST, 60, 3, 2, 3, 2, 52, 60);
        locks(Story.WAITING, -1);
        locks(Story.RING, 1);
        locks(Story.AT_LAST, -1);
        CHECK.same("WAITING: done of 2", Story.WAITING.tell().task(2, 6), 1);
        CHECK.same("LATE: missCount()", Story.LATE.tell().missCount(), 3);
        CHECK.same("LATE: 1 is DUE NOW", Story.LATE.tell().deadlineOf(1), 12);
        CHECK.end();
    }

    private static void counts(Story story, int... due) {
        DeadlineBench bench = story.tell();
        for (int what = 0; what < due.length; what++) {
            CHECK.same(story + ": count(" + what + ")", bench.count(what), due[what]);
        }
    }

    private static void locks(Story story, int awaitedByZero) {
        DeadlineBench bench = story.tell();
        CHECK.same(story + ": waitsFor(0)", bench.waitsFor(0), awaitedByZero);
        CHECK.same(story + ": waitsFor(1)", bench.waitsFor(1), 0);
        CHECK.same(story + ": owner(0)", bench.owner(0), 0);
        CHECK.same(story + ": owner(1)", bench.owner(1), 1);
    }
}
