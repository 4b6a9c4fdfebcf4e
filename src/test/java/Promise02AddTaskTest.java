/** Promise 2: addTask. */
public final class Promise02AddTaskTest {
    private static final Check CHECK = new Check("Promise02AddTaskTest");

    public static void main(String[] args) {
        leastFreeNumber();
        refusesWhatIsNotInOrder();
        takesTheEdges();
        asksTheOrderFirst();
        beginsAnew();
        CHECK.end();
    }

    private static void leastFreeNumber() {
        DeadlineBench bench = new DeadlineBench(4, 0, 0, 0, 100);
        CHECK.same("first", bench.addTask(10, 2, 5), 0);
        CHECK.same("second", bench.addTask(20, 3, 6), 1);
        CHECK.same("third", bench.addTask(30, 4, 7), 2);
        CHECK.isTrue("removeTask(2)", bench.removeTask(2));
        CHECK.isTrue("removeTask(0)", bench.removeTask(0));
        CHECK.same("least free one", bench.addTask(40, 5, 8), 0);
        CHECK.same("next free one", bench.addTask(50, 6, 9), 2);
        CHECK.same("last free one", bench.addTask(60, 7, 10), 3);
        CHECK.same("none left", bench.addTask(60, 7, 10), -1);
        CHECK.same("LIVE TASKS", bench.count(1), 4);
        CHECK.same("PERIOD of 0", bench.task(0, 0), 40);
        CHECK.same("WORK of 0", bench.task(0, 1), 5);
        CHECK.same("DEADLINE of 0", bench.task(0, 2), 8);
        CHECK.same("PERIOD of 1", bench.task(1, 0), 20);
    }

    private static void refusesWhatIsNotInOrder() {
        int[][] wrong = {
            {10, 0, 5}, {10, -1, 5}, {10, 6, 5}, {10, 2, 11}, {101, 2, 5}, {0, 0, 0}, {-1, -1, -1},
            {Integer.MAX_VALUE, 1, 1}, {Integer.MIN_VALUE, 1, 1}, {10, Integer.MIN_VALUE, 5},
            {10, 2, Integer.MAX_VALUE}, {10, 2, 1}, {4, 2, 5}};
        DeadlineBench bench = new DeadlineBench(4, 0, 0, 0, 100);
        for (int[] t : wrong) {
            CHECK.same("addTask(" + t[0] + ", " + t[1] + ", " + t[2] + ")", bench.addTask(t[0], t[1], t[2]), -2);
        }
        CHECK.same("LIVE TASKS behind refusals", bench.count(1), 0);
        CHECK.same("task(0, 0) behind refusals", bench.task(0, 0), -1);
    }

    private static void takesTheEdges() {
        DeadlineBench bench = new DeadlineBench(4, 0, 0, 0, 100);
        CHECK.same("all alike", bench.addTask(7, 7, 7), 0);
        CHECK.same("PERIOD of LAST", bench.addTask(100, 1, 100), 1);
        CHECK.same("all of LAST", bench.addTask(100, 100, 100), 2);
        CHECK.same("the least", bench.addTask(1, 1, 1), 3);
    }

    private static void asksTheOrderFirst() {
        DeadlineBench bench = new DeadlineBench(1, 0, 0, 0, 100);
        CHECK.same("the one number", bench.addTask(10, 2, 5), 0);
        CHECK.same("no number left and not in order", bench.addTask(10, 0, 5), -2);
        CHECK.same("no number left", bench.addTask(10, 2, 5), -1);
        CHECK.same("LIVE TASKS", bench.count(1), 1);
    }

    /** A TASK that comes with a number that was used has nothing of the one before it. */
    private static void beginsAnew() {
        DeadlineBench bench = new DeadlineBench(2, 1, 5, 5, 100);
        bench.addTask(4, 2, 3);
        bench.addTask(4, 2, 4);
        bench.addSection(0, 0, 0, 1);
        CHECK.same("run(9)", bench.run(9), 9);
        CHECK.same("JOBS RELEASED of 0", bench.task(0, 5), 3);
        CHECK.same("JOBS done of 0", bench.task(0, 6), 2);
        CHECK.isTrue("removeTask(0)", bench.removeTask(0));
        CHECK.same("addTask(50, 3, 20)", bench.addTask(50, 3, 20), 0);
        CHECK.same("its next JOB", bench.task(0, 3), 9);
        for (int what = 4; what <= 10; what++) {
            CHECK.same("task(0, " + what + ") of the new one", bench.task(0, what), 0);
        }
        CHECK.same("remaining(0) before its RELEASE", bench.remaining(0), 0);
        CHECK.same("tick()", bench.tick(), 1);
        CHECK.same("JOBS RELEASED of the new one", bench.task(0, 5), 1);
        CHECK.same("its next JOB", bench.task(0, 3), 59);
        CHECK.same("its JOB is DUE", bench.deadlineOf(0), 29);
    }
}
