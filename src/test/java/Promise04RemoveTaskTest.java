/** Promise 4: removeTask. */
public final class Promise04RemoveTaskTest {
    private static final Check CHECK = new Check("Promise04RemoveTaskTest");

    public static void main(String[] args) {
        refusesWhatIsNotLive();
        isGoneWholly();
        letsGoOfItsLocks();
        waitsNoMore();
        whatIsAheadIsAskedAnew();
        CHECK.end();
    }

    private static void refusesWhatIsNotLive() {
        DeadlineBench bench = new DeadlineBench(2, 1, 5, 5, 100);
        bench.addTask(10, 2, 10);
        int[] wrong = {1, 2, -1, 40, Integer.MAX_VALUE, Integer.MIN_VALUE};
        for (int task : wrong) {
            CHECK.isFalse("removeTask(" + task + ")", bench.removeTask(task));
        }
        CHECK.same("LIVE TASKS behind refusals", bench.count(1), 1);
        CHECK.isTrue("removeTask(0)", bench.removeTask(0));
        CHECK.isFalse("removeTask(0) again", bench.removeTask(0));
    }

    private static void isGoneWholly() {
        DeadlineBench bench = new DeadlineBench(2, 1, 5, 5, 100);
        bench.addTask(10, 4, 10);
        bench.addTask(10, 2, 10);
        bench.addSection(0, 0, 0, 4);
        bench.addSection(1, 0, 0, 1);
        bench.addSection(0, 0, 0, 1);
        bench.tick();
        CHECK.same("PENDING JOBS before", bench.count(2), 2);
        CHECK.isTrue("removeTask(0)", bench.removeTask(0));
        CHECK.same("LIVE TASKS", bench.count(1), 1);
        CHECK.same("PENDING JOBS", bench.count(2), 1);
        CHECK.same("SECTIONS", bench.count(3), 1);
        CHECK.same("SECTIONS of 1", bench.task(1, 4), 1);
        CHECK.same("LOCKS held", bench.count(4), 0);
        CHECK.same("missCount(): that is no MISS", bench.missCount(), 0);
        CHECK.same("remaining(0)", bench.remaining(0), 0);
        CHECK.same("deadlineOf(0)", bench.deadlineOf(0), -1);
        CHECK.same("task(0, 0)", bench.task(0, 0), -1);
        CHECK.same("ran(0) still tells of it", bench.ran(0), 0);
        CHECK.same("run(20)", bench.run(20), 20);
        CHECK.same("missCount() later", bench.missCount(), 0);
        CHECK.same("JOBS done of 1", bench.task(1, 6), 2);
    }

    private static void letsGoOfItsLocks() {
        DeadlineBench bench = new DeadlineBench(4, 2, 9, 5, 100);
        bench.addTask(90, 10, 90);
        bench.addSection(0, 0, 0, 10);
        bench.addSection(0, 0, 1, 10);
        bench.tick();
        // Each one waits before the next one comes: the holder inherits, and only one that is DUE earlier is AHEAD of it.
        bench.addTask(80, 3, 50);
        bench.addSection(1, 0, 0, 2);
        CHECK.same("1 waits for 0", bench.tick(), 0);
        bench.addTask(80, 3, 40);
        bench.addSection(2, 0, 1, 2);
        CHECK.same("2 waits for 0", bench.tick(), 0);
        bench.addTask(80, 3, 30);
        bench.addSection(3, 0, 0, 2);
        CHECK.same("3 waits for 0", bench.tick(), 0);
        CHECK.same("waiters(0)", bench.waiters(0), 2);
        CHECK.same("waiters(1)", bench.waiters(1), 1);
        CHECK.isTrue("removeTask(0)", bench.removeTask(0));
        CHECK.same("owner(0): the one that is DUE first", bench.owner(0), 3);
        CHECK.same("owner(1)", bench.owner(1), 2);
        CHECK.same("waitsFor(1): it waits on", bench.waitsFor(1), 0);
        CHECK.same("waitsFor(2)", bench.waitsFor(2), -1);
        CHECK.same("waitsFor(3)", bench.waitsFor(3), -1);
    }

    private static void waitsNoMore() {
        DeadlineBench bench = new DeadlineBench(2, 1, 9, 5, 100);
        bench.addTask(90, 5, 90);
        bench.addSection(0, 0, 0, 5);
        bench.tick();
        bench.addTask(20, 1, 20);
        bench.addSection(1, 0, 0, 1);
        bench.tick();
        CHECK.same("effective(0) before", bench.effective(0), 21);
        CHECK.isTrue("removeTask(1)", bench.removeTask(1));
        CHECK.same("waiters(0)", bench.waiters(0), 0);
        CHECK.same("effective(0)", bench.effective(0), 90);
        CHECK.same("run(3)", bench.run(3), 3);
        CHECK.same("owner(0) when 0 is done", bench.owner(0), -1);
    }

    /** 1 is AHEAD of 2 by what it inherits of 3, and no more when 3 is gone. */
    private static void whatIsAheadIsAskedAnew() {
        for (int removed = 0; removed <= 1; removed++) {
            DeadlineBench bench = new DeadlineBench(4, 2, 9, 5, 200);
            bench.addTask(100, 10, 100);
            bench.addSection(0, 0, 0, 10);
            bench.tick();
            bench.addTask(100, 5, 90);
            bench.addSection(1, 0, 1, 5);
            bench.addSection(1, 1, 0, 1);
            bench.run(2);
            bench.addTask(100, 1, 50);
            bench.addSection(2, 0, 0, 1);
            bench.tick();
            bench.addTask(100, 1, 26);
            bench.addSection(3, 0, 1, 1);
            bench.tick();
            CHECK.same("waiters(0)", bench.waiters(0), 2);
            CHECK.same("effective(1)", bench.effective(1), 30);
            if (removed == 1) {
                CHECK.isTrue("removeTask(3)", bench.removeTask(3));
            }
            CHECK.isTrue("removeTask(0)", bench.removeTask(0));
            CHECK.same("owner(0), 3 removed before " + removed, bench.owner(0), removed == 1 ? 2 : 1);
        }
    }
}
