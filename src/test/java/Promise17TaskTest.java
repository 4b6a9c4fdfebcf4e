/** Promise 17: task, with all that is counted of a TASK. */
public final class Promise17TaskTest {
    private static final Check CHECK = new Check("Promise17TaskTest");

    public static void main(String[] args) {
        wrongInputs();
        figuresOfATask();
        missedJobs();
        greatestAnswer();
        waitedAndPutBy();
        lockGivenOnInTheSameTick();
        nextJobIsNotPutBy();
        doneJobIsNotPutBy();
        notPutByBehindAPause();
        countsBeginAnew();
        CHECK.end();
    }

    private static void figures(String story, DeadlineBench bench, int task, int... due) {
        for (int what = 0; what < due.length; what++) {
            CHECK.same(story + ": task(" + task + ", " + what + ")", bench.task(task, what), due[what]);
        }
    }

    private static void wrongInputs() {
        DeadlineBench bench = new DeadlineBench(2, 1, 5, 5, 100);
        bench.addTask(10, 2, 9);
        int[] wrong = {1, 2, -1, 40, Integer.MAX_VALUE, Integer.MIN_VALUE};
        for (int task : wrong) {
            for (int what = -1; what <= 11; what++) {
                CHECK.same("task(" + task + ", " + what + ")", bench.task(task, what), -1);
            }
        }
        int[] others = {-1, 11, Integer.MAX_VALUE, Integer.MIN_VALUE};
        for (int what : others) {
            CHECK.same("task(0, " + what + ")", bench.task(0, what), -1);
        }
    }

    private static void figuresOfATask() {
        DeadlineBench bench = new DeadlineBench(2, 1, 5, 5, 100);
        bench.run(3);
        bench.addTask(10, 2, 9);
        bench.addSection(0, 0, 0, 1);
        figures("new", bench, 0, 10, 2, 9, 3, 1, 0, 0, 0, 0, 0, 0);
        bench.tick();
        figures("RELEASED", bench, 0, 10, 2, 9, 13, 1, 1, 0, 0, 0, 0, 0);
        bench.tick();
        figures("done", bench, 0, 10, 2, 9, 13, 1, 1, 1, 0, 0, 0, 2);
        bench.run(30);
        figures("later", bench, 0, 10, 2, 9, 43, 1, 4, 4, 0, 0, 0, 2);
        bench.removeTask(0);
        figures("removed", bench, 0, -1, -1, -1, -1, -1, -1, -1, -1, -1, -1, -1);
    }

    private static void missedJobs() {
        DeadlineBench bench = new DeadlineBench(2, 0, 0, 0, 100);
        bench.addTask(4, 3, 4);
        bench.addTask(4, 2, 4);
        bench.run(100);
        figures("one MISSED", bench, 1, 4, 2, 4, 8, 0, 2, 0, 1, 0, 0, 0);
        bench.run(100);
        figures("two MISSED", bench, 1, 4, 2, 4, 12, 0, 3, 0, 2, 0, 0, 0);
        figures("the other one", bench, 0, 4, 3, 4, 12, 0, 3, 2, 0, 0, 0, 3);
    }

    private static void greatestAnswer() {
        DeadlineBench bench = new DeadlineBench(2, 0, 0, 0, 100);
        bench.addTask(10, 2, 10);
        bench.run(10);
        CHECK.same("ANSWER alone", bench.task(0, 10), 2);
        bench.addTask(90, 5, 9);
        bench.run(10);
        CHECK.same("ANSWER behind another one", bench.task(0, 10), 7);
        CHECK.same("ANSWER of that one", bench.task(1, 10), 5);
        bench.run(10);
        CHECK.same("a lesser one later", bench.task(0, 10), 7);
        CHECK.same("JOBS done", bench.task(0, 6), 3);
    }

    private static void waitedAndPutBy() {
        DeadlineBench bench = new DeadlineBench(4, 2, 9, 5, 200);
        bench.addTask(100, 10, 100);
        bench.addSection(0, 0, 0, 4);
        bench.run(1);
        bench.addTask(100, 5, 90);
        bench.addSection(1, 0, 1, 5);
        bench.addSection(1, 1, 0, 1);
        bench.run(2);
        CHECK.same("1 WAITED", bench.task(1, 8), 1);
        CHECK.same("1, that waits, was not PUT BY", bench.task(1, 9), 0);
        CHECK.same("0 was PUT BY", bench.task(0, 9), 1);
        bench.addTask(100, 1, 50);
        bench.addSection(2, 0, 0, 1);
        bench.run(1);
        bench.addTask(100, 1, 26);
        bench.addSection(3, 0, 1, 1);
        bench.run(7);
        figures("behind all", bench, 0, 100, 10, 100, 100, 1, 1, 0, 0, 0, 2, 0);
        figures("behind all", bench, 1, 100, 5, 90, 101, 2, 1, 1, 0, 2, 0, 8);
        figures("behind all", bench, 2, 100, 1, 50, 103, 1, 1, 1, 0, 2, 0, 8);
        figures("behind all", bench, 3, 100, 1, 26, 104, 1, 1, 1, 0, 4, 0, 6);
    }

    /** It waits within (3) and is READY behind (3): no tick WAITED, but PUT BY. */
    private static void lockGivenOnInTheSameTick() {
        DeadlineBench bench = new DeadlineBench(2, 1, 9, 5, 200);
        bench.addTask(100, 5, 100);
        bench.addSection(0, 0, 0, 2);
        bench.tick();
        bench.addTask(100, 3, 20);
        bench.addSection(1, 1, 0, 1);
        CHECK.same("1 runs", bench.tick(), 1);
        CHECK.same("0 runs and lets go", bench.tick(), 0);
        CHECK.same("1 has the LOCK", bench.owner(0), 1);
        CHECK.same("1 WAITED", bench.task(1, 8), 0);
        CHECK.same("1 was PUT BY", bench.task(1, 9), 1);
    }

    private static void nextJobIsNotPutBy() {
        DeadlineBench bench = new DeadlineBench(3, 0, 0, 5, 200);
        bench.addTask(4, 4, 4);
        bench.addTask(20, 1, 1);
        bench.tick();
        bench.addTask(20, 2, 5);
        bench.run(3);
        CHECK.same("0 ran", bench.ran(0), 0);
        CHECK.same("2 runs, 0 is MISSED and RELEASED anew", bench.tick(), 2);
        CHECK.same("MISSED", bench.task(0, 7), 1);
        CHECK.same("it is PENDING", bench.remaining(0), 4);
        CHECK.same("the new JOB did not run before", bench.task(0, 9), 0);

        DeadlineBench anew = new DeadlineBench(2, 0, 0, 5, 200);
        anew.addTask(50, 4, 50);
        anew.tick();
        anew.removeTask(0);
        anew.addTask(50, 4, 50);
        anew.addTask(50, 4, 40);
        CHECK.same("1 runs", anew.tick(), 1);
        CHECK.same("the new TASK did not run before", anew.task(0, 9), 0);
    }

    private static void doneJobIsNotPutBy() {
        DeadlineBench bench = new DeadlineBench(2, 0, 0, 5, 200);
        bench.addTask(50, 1, 10);
        bench.addTask(50, 3, 20);
        bench.run(3);
        CHECK.same("0 is done, not PUT BY", bench.task(0, 9), 0);
        CHECK.same("1 runs on, not PUT BY", bench.task(1, 9), 0);
    }

    private static void notPutByBehindAPause() {
        DeadlineBench bench = new DeadlineBench(3, 0, 0, 5, 200);
        bench.addTask(100, 3, 100);
        bench.tick();
        bench.addTask(100, 3, 50);
        bench.run(3);
        CHECK.same("PUT BY once, though three ticks went by", bench.task(0, 9), 1);
        bench.tick();
        bench.addTask(100, 1, 50);
        bench.tick();
        CHECK.same("PUT BY again", bench.task(0, 9), 2);
    }

    private static void countsBeginAnew() {
        DeadlineBench bench = new DeadlineBench(2, 1, 9, 5, 200);
        bench.addTask(100, 9, 100);
        bench.addSection(0, 1, 0, 8);
        bench.run(2);
        bench.addTask(50, 3, 6);
        bench.addSection(1, 1, 0, 1);
        bench.run(7);
        figures("0 holds the LOCK till 1 is late", bench, 0, 100, 9, 100, 100, 1, 1, 0, 0, 0, 1, 0);
        figures("1 waits till it is late", bench, 1, 50, 3, 6, 52, 1, 1, 0, 1, 5, 0, 0);
        bench.removeTask(0);
        bench.removeTask(1);
        bench.addTask(20, 2, 10);
        bench.addTask(30, 3, 20);
        figures("a new 0", bench, 0, 20, 2, 10, 9, 0, 0, 0, 0, 0, 0, 0);
        figures("a new 1", bench, 1, 30, 3, 20, 9, 0, 0, 0, 0, 0, 0, 0);
    }
}
