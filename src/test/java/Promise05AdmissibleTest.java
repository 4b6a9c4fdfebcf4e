/** Promise 5: admissible, against the sum of the document asked at each time. */
public final class Promise05AdmissibleTest {
    private static final Check CHECK = new Check("Promise05AdmissibleTest");

    public static void main(String[] args) {
        knownSets();
        timesBelowLastAlone();
        liveTasksAlone();
        greatSums();
        manySmallSets();
        CHECK.end();
    }

    private static boolean admits(int last, int[][] tasks) {
        DeadlineBench bench = new DeadlineBench(40, 0, 0, 0, last);
        for (int[] t : tasks) {
            bench.addTask(t[0], t[1], t[2]);
        }
        return bench.admissible();
    }

    private static boolean admitsByTheSum(int last, int[][] tasks) {
        for (int t = 0; t < last; t++) {
            long sum = 0;
            for (int[] task : tasks) {
                if (task[2] <= t) {
                    sum += (long) task[1] * (1 + (t - task[2]) / task[0]);
                }
            }
            if (sum > t) {
                return false;
            }
        }
        return true;
    }

    private static void knownSets() {
        CHECK.isTrue("no TASK", admits(100, new int[][] {}));
        CHECK.isTrue("all of the time", admits(100, new int[][] {{1, 1, 1}}));
        CHECK.isFalse("more than all of the time", admits(100, new int[][] {{1, 1, 1}, {100, 1, 99}}));
        CHECK.isTrue("two halves", admits(100, new int[][] {{2, 1, 2}, {4, 2, 4}}));
        CHECK.isFalse("two halves, one due too early", admits(100, new int[][] {{2, 1, 1}, {4, 2, 2}}));
        CHECK.isTrue("one due early, as can be", admits(100, new int[][] {{2, 1, 1}, {4, 2, 4}}));
        CHECK.isFalse("late at the second JOB alone", admits(100, new int[][] {{5, 3, 5}, {8, 4, 8}}));
    }

    private static void timesBelowLastAlone() {
        CHECK.isTrue("too much at LAST", admits(10, new int[][] {{10, 6, 10}, {10, 6, 10}}));
        CHECK.isFalse("too much at LAST less 1", admits(11, new int[][] {{10, 6, 10}, {10, 6, 10}}));
        CHECK.isTrue("LAST of 1", admits(1, new int[][] {{1, 1, 1}, {1, 1, 1}}));
        CHECK.isFalse("LAST of 2", admits(2, new int[][] {{1, 1, 1}, {1, 1, 1}}));
    }

    private static void liveTasksAlone() {
        DeadlineBench bench = new DeadlineBench(3, 0, 0, 0, 50);
        bench.addTask(4, 3, 4);
        bench.addTask(4, 2, 4);
        CHECK.isFalse("both", bench.admissible());
        bench.removeTask(0);
        CHECK.isTrue("one is gone", bench.admissible());
        bench.run(10);
        CHECK.isTrue("the time does not matter", bench.admissible());
        bench.addTask(4, 4, 4);
        CHECK.isFalse("one came", bench.admissible());
        CHECK.same("nothing is changed", bench.count(0), 10);
    }

    private static void greatSums() {
        int[][] tasks = new int[40][];
        for (int i = 0; i < 40; i++) {
            tasks[i] = new int[] {1, 1, 1};
        }
        CHECK.isFalse("40 that take all", admits(20000, tasks));
        for (int i = 0; i < 40; i++) {
            tasks[i] = new int[] {20000, 20000, 20000};
        }
        CHECK.isTrue("40 that are due at LAST", admits(20000, tasks));
        for (int i = 0; i < 40; i++) {
            tasks[i] = new int[] {19999, 19999, 19999};
        }
        CHECK.isFalse("40 that are due before LAST", admits(20000, tasks));
        for (int i = 0; i < 40; i++) {
            tasks[i] = new int[] {40, 1, 40};
        }
        CHECK.isTrue("40 that share all", admits(20000, tasks));
    }

    private static void manySmallSets() {
        Dice dice = new Dice(5);
        int admitted = 0;
        for (int set = 0; set < 20000; set++) {
            int last = dice.from(1, 60);
            int[][] tasks = new int[dice.from(1, 5)][];
            for (int i = 0; i < tasks.length; i++) {
                int period = dice.from(1, last);
                int deadline = dice.from(1, period);
                int work = dice.from(1, Math.max(1, deadline / 2));
                tasks[i] = new int[] {period, work, deadline};
            }
            boolean due = admitsByTheSum(last, tasks);
            admitted += due ? 1 : 0;
            CHECK.same("set " + set + " " + java.util.Arrays.deepToString(tasks) + " LAST " + last,
                admits(last, tasks) ? 1 : 0, due ? 1 : 0);
        }
        CHECK.isTrue("some sets are admissible, some are not", admitted > 2000 && admitted < 18000);
    }
}
