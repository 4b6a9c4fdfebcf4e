/** The boundary cases of promise 5. */
public final class Boundary05AdmissibleTest {
    private static final Check CHECK = new Check("Boundary05AdmissibleTest");

    public static void main(String[] args) {
        eachTimeBelowLast();
        theLeastAndTheGreatestLast();
        deadlineUpToTheTime();
        wholeNumberOfPeriods();
        atMostTheTime();
        noTaskAndAllTasks();
        changesNothing();
        CHECK.end();
    }

    /** Rows of PERIOD, WORK, DEADLINE. */
    private static boolean admits(int last, int[]... tasks) {
        DeadlineBench bench = new DeadlineBench(40, 0, 0, 0, last);
        for (int[] t : tasks) {
            int added = bench.addTask(t[0], t[1], t[2]);
            CHECK.isTrue("LAST " + last + ": a TASK comes", added >= 0);
        }
        return bench.admissible();
    }

    private static int[] task(int period, int work, int deadline) {
        return new int[] {period, work, deadline};
    }

    /** "for each time t below LAST": here it is too much at 10 and 11 alone. */
    private static void eachTimeBelowLast() {
        CHECK.isTrue("too much at LAST and behind", admits(10, task(10, 6, 10), task(10, 6, 10)));
        CHECK.isFalse("too much at LAST less 1", admits(11, task(10, 6, 10), task(10, 6, 10)));
        CHECK.isFalse("too much at LAST less 2", admits(12, task(10, 6, 10), task(10, 6, 10)));
        CHECK.isFalse("too much long before LAST", admits(20000, task(20000, 6, 10), task(20000, 6, 10)));
        CHECK.isFalse("too much at 1", admits(20000, task(20000, 1, 1), task(20000, 1, 1)));
    }

    private static void theLeastAndTheGreatestLast() {
        CHECK.isTrue("LAST 1: at 0 nothing is asked", admits(1, task(1, 1, 1), task(1, 1, 1)));
        CHECK.isFalse("LAST 2: at 1", admits(2, task(1, 1, 1), task(1, 1, 1)));
        CHECK.isTrue("LAST 20000: at 20000", admits(20000, task(20000, 10001, 20000), task(20000, 10001, 20000)));
        CHECK.isFalse("LAST 20000: at 19999", admits(20000, task(19999, 10000, 19999), task(19999, 10000, 19999)));
        CHECK.isTrue("LAST 20000: all of it", admits(20000, task(19999, 10000, 19999), task(19999, 9999, 19999)));
    }

    /** "over all LIVE TASKS with DEADLINE <= t": 6 units of one by 7, and 2 of another one by 6, 7 or 8. */
    private static void deadlineUpToTheTime() {
        CHECK.isFalse("DEADLINE t - 1", admits(8, task(8, 6, 7), task(8, 2, 6)));
        CHECK.isFalse("DEADLINE t", admits(8, task(8, 6, 7), task(8, 2, 7)));
        CHECK.isTrue("DEADLINE t + 1", admits(8, task(8, 6, 7), task(8, 2, 8)));
        CHECK.isTrue("DEADLINE t + 1, asked behind", admits(100, task(100, 6, 7), task(100, 2, 8)));
        CHECK.isFalse("DEADLINE t + 1, too much there", admits(100, task(100, 6, 7), task(100, 3, 8)));
    }

    /** "the whole number of PERIODS in t - DEADLINE": with PERIOD 7 and DEADLINE 5 one more from 12 on, and from 19 on. */
    private static void wholeNumberOfPeriods() {
        CHECK.isTrue("below 12", admits(12, task(7, 3, 5), task(12, 7, 10)));
        CHECK.isFalse("at 12", admits(13, task(7, 3, 5), task(13, 7, 10)));
        CHECK.isTrue("at 12, a unit less", admits(13, task(7, 3, 5), task(13, 6, 10)));
        CHECK.isTrue("below 19", admits(19, task(7, 3, 5), task(19, 11, 17)));
        CHECK.isFalse("at 19", admits(20, task(7, 3, 5), task(20, 11, 17)));
        CHECK.isTrue("at 19, a unit less", admits(20, task(7, 3, 5), task(20, 10, 17)));
    }

    /** "is at most t": t is, t + 1 is not. */
    private static void atMostTheTime() {
        for (int t : new int[] {1, 2, 10, 19999}) {
            CHECK.isTrue("as much as " + t, admits(t + 1, task(t, t, t)));
            CHECK.isFalse("one more than " + t, admits(t + 1, task(t, t, t), task(t, 1, t)));
            CHECK.isTrue("one more behind " + t, admits(t + 1, task(t, t, t), task(t + 1, 1, t + 1)));
        }
        CHECK.isTrue("as much as each time", admits(20000, task(1, 1, 1)));
        CHECK.isFalse("one more at 19999", admits(20000, task(1, 1, 1), task(19999, 1, 19999)));
    }

    private static void noTaskAndAllTasks() {
        CHECK.isTrue("no TASK, LAST 1", admits(1));
        CHECK.isTrue("no TASK, LAST 20000", admits(20000));
        int[][] all = new int[40][];
        java.util.Arrays.fill(all, task(40, 1, 40));
        CHECK.isTrue("40 that share each time", admits(20000, all));
        all[39] = task(39, 1, 39);
        CHECK.isFalse("40 of which one comes more often", admits(20000, all));
        java.util.Arrays.fill(all, task(1, 1, 1));
        CHECK.isFalse("40 that take each time", admits(20000, all));
        java.util.Arrays.fill(all, task(20000, 20000, 20000));
        CHECK.isTrue("40 that ask at LAST", admits(20000, all));
        java.util.Arrays.fill(all, task(19999, 19999, 19999));
        CHECK.isFalse("40 that ask before LAST", admits(20000, all));
        java.util.Arrays.fill(all, task(19999, 499, 19999));
        CHECK.isTrue("40 that ask less before LAST", admits(20000, all));
    }

    /** It asks only. NOW, PENDING JOBS and LOCKS don't matter to it. */
    private static void changesNothing() {
        int[] due = {1, 1, 1, 0, 0, 1};
        for (Story story : Story.values()) {
            Refused.check(CHECK, story, "admissible()", bench -> bench.admissible() ? 1 : 0, due[story.ordinal()]);
        }
    }
}
