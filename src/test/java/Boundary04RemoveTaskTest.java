/** The boundary cases of promise 4. */
public final class Boundary04RemoveTaskTest {
    private static final Check CHECK = new Check("Boundary04RemoveTaskTest");

    public static void main(String[] args) {
        noneSuch();
        firstAndLastNumber();
        numberThatStoodForOne();
        noMiss();
        sectionsAreGone();
        refusedChangesNothing();
        CHECK.end();
    }

    /** "false if there is none such". */
    private static void noneSuch() {
        for (int numbers : new int[] {1, 2, 40}) {
            for (int task : Ints.outside(0, numbers - 1)) {
                DeadlineBench bench = new DeadlineBench(numbers, 0, 0, 0, 60);
                for (int number = 0; number < numbers; number++) {
                    bench.addTask(10, 1, 10);
                }
                CHECK.isFalse("of " + numbers + ": removeTask(" + task + ")", bench.removeTask(task));
                CHECK.same("of " + numbers + ": LIVE TASKS", bench.count(1), numbers);
            }
        }
        DeadlineBench empty = new DeadlineBench(40, 0, 0, 0, 60);
        for (int task = 0; task < 40; task++) {
            CHECK.isFalse("of a new object: removeTask(" + task + ")", empty.removeTask(task));
        }
    }

    private static void firstAndLastNumber() {
        DeadlineBench bench = new DeadlineBench(40, 0, 0, 0, 60);
        for (int number = 0; number < 40; number++) {
            bench.addTask(10, 1, 10);
        }
        for (int task : new int[] {0, 1, 38, 39}) {
            CHECK.isTrue("removeTask(" + task + ")", bench.removeTask(task));
            CHECK.same("task(" + task + ", 0)", bench.task(task, 0), -1);
        }
        CHECK.same("LIVE TASKS", bench.count(1), 36);
    }

    private static void numberThatStoodForOne() {
        DeadlineBench bench = new DeadlineBench(1, 0, 0, 0, 60);
        CHECK.isFalse("before one came", bench.removeTask(0));
        for (int time = 0; time < 3; time++) {
            bench.addTask(10, 1, 10);
            CHECK.isTrue("the one that came", bench.removeTask(0));
            CHECK.isFalse("again", bench.removeTask(0));
        }
        CHECK.same("LIVE TASKS", bench.count(1), 0);
    }

    /** "a PENDING JOB is DROPPED (that is no MISS)": even if it is DUE NOW. */
    private static void noMiss() {
        DeadlineBench bench = Story.LATE.tell();
        CHECK.same("missCount() before", bench.missCount(), 3);
        CHECK.isTrue("removeTask(1), DUE NOW", bench.removeTask(1));
        CHECK.same("PENDING JOBS", bench.count(2), 1);
        CHECK.same("tick()", bench.tick(), 0);
        CHECK.same("missCount()", bench.missCount(), 3);

        DeadlineBench atLast = Story.AT_LAST.tell();
        CHECK.isTrue("removeTask(0) at LAST", atLast.removeTask(0));
        CHECK.same("its LOCK is given on", atLast.owner(0), 1);
        CHECK.isTrue("removeTask(1) at LAST", atLast.removeTask(1));
        CHECK.same("LOCKS held", atLast.count(4), 0);
        CHECK.same("PENDING JOBS", atLast.count(2), 0);
        CHECK.same("missCount() at LAST", atLast.missCount(), 0);
    }

    /** "its SECTIONS are gone": the first ones, the last ones, all of a full list; those of others stay. */
    private static void sectionsAreGone() {
        for (int task = 0; task < 4; task++) {
            DeadlineBench bench = Story.FULL.tell();
            int own = task < 2 ? 2 : 1;
            CHECK.isTrue("FULL: removeTask(" + task + ")", bench.removeTask(task));
            CHECK.same("FULL without " + task + ": SECTIONS", bench.count(3), 6 - own);
            for (int other = 0; other < 4; other++) {
                int due = other == task ? -1 : other < 2 ? 2 : 1;
                CHECK.same("FULL without " + task + ": SECTIONS of " + other, bench.task(other, 4), due);
            }
            bench.addTask(20, 3, 9);
            CHECK.same("FULL: SECTIONS of a new " + task, bench.task(task, 4), 0);
        }
        DeadlineBench all = Story.FULL.tell();
        for (int task = 0; task < 4; task++) {
            all.removeTask(task);
        }
        CHECK.same("without all: SECTIONS", all.count(3), 0);
        DeadlineBench without = new DeadlineBench(1, 0, 0, 0, 60);
        without.addTask(10, 1, 10);
        CHECK.isTrue("where no SECTION can be", without.removeTask(0));
    }

    /** "What is refused changes nothing." */
    private static void refusedChangesNothing() {
        for (int task : Ints.outside(0, Story.TASKS - 1)) {
            Refused.checkInAll(CHECK, "removeTask(" + task + ")", bench -> bench.removeTask(task) ? 1 : 0, 0);
        }
        for (int task = 0; task < Story.TASKS; task++) {
            int number = task;
            Refused.check(CHECK, Story.NEW, "removeTask(" + task + ")", bench -> bench.removeTask(number) ? 1 : 0, 0);
        }
        Refused.check(CHECK, Story.WAITING, "removeTask(3)", bench -> bench.removeTask(3) ? 1 : 0, 0);
        Refused.check(CHECK, Story.RING, "removeTask(2)", bench -> bench.removeTask(2) ? 1 : 0, 0);
        Refused.check(CHECK, Story.LATE, "removeTask(3)", bench -> bench.removeTask(3) ? 1 : 0, 0);
        Refused.check(CHECK, Story.AT_LAST, "removeTask(3)", bench -> bench.removeTask(3) ? 1 : 0, 0);
    }
}
