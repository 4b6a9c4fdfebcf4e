/** The boundary cases of promise 18. */
public final class Boundary18CountTest {
    private static final Check CHECK = new Check("Boundary18CountTest");

    public static void main(String[] args) {
        anotherWhat();
        theLeast();
        theGreatest();
        nowAndIdleUpToLast();
        changesNothing();
        CHECK.end();
    }

    private static void counts(String story, DeadlineBench bench, int... due) {
        for (int what = 0; what < due.length; what++) {
            CHECK.same(story + ": count(" + what + ")", bench.count(what), due[what]);
        }
    }

    /** "NONE for another what". */
    private static void anotherWhat() {
        for (Story story : Story.values()) {
            for (int what : Ints.outside(0, 6)) {
                CHECK.same(story + ": count(" + what + ")", story.tell().count(what), -1);
            }
        }
    }

    private static void theLeast() {
        counts("the least sizes", new DeadlineBench(1, 0, 0, 0, 1), 0, 0, 0, 0, 0, 0, 1);
        counts("sizes below", new DeadlineBench(-1, -1, -1, -1, -1), 0, 0, 0, 0, 0, 0, 1);
    }

    /** 40 TASKS with PENDING JOBS, 120 SECTIONS, and 0 holds all 16 LOCKS. */
    private static void theGreatest() {
        DeadlineBench bench = new DeadlineBench(40, 16, 120, 100, 20000);
        for (int number = 0; number < 40; number++) {
            bench.addTask(20000, 500, 20000);
        }
        for (int lock = 0; lock < 16; lock++) {
            bench.addSection(0, 0, lock, 500);
        }
        for (int begin = 0; begin < 104; begin++) {
            bench.addSection(39, begin, 0, 1);
        }
        counts("before the first tick", bench, 0, 40, 0, 120, 0, 0, 20000);
        bench.tick();
        counts("behind it", bench, 1, 40, 40, 120, 16, 0, 20000);
        bench.run(498);
        counts("before the last unit of 0", bench, 499, 40, 40, 120, 16, 0, 20000);
        bench.tick();
        counts("behind it", bench, 500, 40, 39, 120, 0, 0, 20000);
        for (int number = 0; number < 40; number++) {
            bench.removeTask(number);
        }
        counts("all are removed", bench, 500, 0, 0, 0, 0, 0, 20000);
    }

    private static void nowAndIdleUpToLast() {
        DeadlineBench bench = new DeadlineBench(1, 0, 0, 0, 3);
        for (int now = 0; now < 3; now++) {
            counts("at " + now, bench, now, 0, 0, 0, 0, now, 3);
            bench.tick();
        }
        counts("at LAST", bench, 3, 0, 0, 0, 0, 3, 3);
        bench.tick();
        bench.run(1);
        counts("at LAST, a tick more", bench, 3, 0, 0, 0, 0, 3, 3);
    }

    private static void changesNothing() {
        for (Story story : Story.values()) {
            for (int what : Ints.around(0, 6)) {
                int due = story.tell().count(what);
                Refused.check(CHECK, story, "count(" + what + ")", b -> b.count(what), due);
            }
        }
    }
}
