/** The boundary cases of promise 2. */
public final class Boundary02AddTaskTest {
    private static final Check CHECK = new Check("Boundary02AddTaskTest");
    private static final int MIN = Integer.MIN_VALUE;
    private static final int MAX = Integer.MAX_VALUE;
    /** PERIOD, WORK, DEADLINE: each row breaks one of the four bounds or more, by 1 or by all that an int can. */
    private static final int[][] OUT_OF_ORDER = {
        {10, 0, 5}, {10, -1, 5}, {10, MIN, 5}, {10, 6, 5}, {10, MAX, 5}, {10, 1, 0}, {10, 1, -1}, {10, 1, MIN},
        {10, 2, 11}, {10, 2, MAX}, {1, 2, 2}, {0, 1, 1}, {-1, 1, 1}, {MIN, 1, 1}, {61, 2, 5}, {61, 61, 61}, {MAX, 2, 5},
        {MAX, MAX, MAX}, {MIN, MIN, MIN}, {0, 0, 0}, {-1, -1, -1}, {MAX, 0, MAX}, {MAX, MIN, MAX}};

    public static void main(String[] args) {
        workAboveZero();
        workUpToTheDeadline();
        deadlineUpToThePeriod();
        periodUpToLast();
        allThreeAtAllBoundaries();
        noNumberLeft();
        orderIsAskedFirst();
        leastNumberThatStandsForNone();
        firstReleaseIsNow();
        refusedChangesNothing();
        CHECK.end();
    }

    private static void one(int last, int period, int work, int deadline, int due) {
        DeadlineBench bench = new DeadlineBench(2, 1, 1, 1, last);
        String call = "LAST " + last + ": addTask(" + period + ", " + work + ", " + deadline + ")";
        CHECK.same(call, bench.addTask(period, work, deadline), due);
        CHECK.same(call + ": LIVE TASKS", bench.count(1), due == 0 ? 1 : 0);
        CHECK.same(call + ": PERIOD", bench.task(0, 0), due == 0 ? period : -1);
        CHECK.same(call + ": WORK", bench.task(0, 1), due == 0 ? work : -1);
        CHECK.same(call + ": DEADLINE", bench.task(0, 2), due == 0 ? deadline : -1);
    }

    /** "-2, if not 0 < work". */
    private static void workAboveZero() {
        one(60, 10, 2, 5, 0);
        one(60, 10, 1, 5, 0);
        one(60, 10, 0, 5, -2);
        one(60, 10, -1, 5, -2);
        one(60, 10, MIN, 5, -2);
    }

    /** "work <= deadline". */
    private static void workUpToTheDeadline() {
        one(60, 10, 4, 5, 0);
        one(60, 10, 5, 5, 0);
        one(60, 10, 6, 5, -2);
        one(60, 10, MAX, 5, -2);
        one(60, 10, 5, 4, -2);
        one(60, 10, 5, 6, 0);
        one(60, 10, 1, 1, 0);
        one(60, 10, 1, 0, -2);
        one(60, 10, 1, MIN, -2);
    }

    /** "deadline <= period". */
    private static void deadlineUpToThePeriod() {
        one(60, 10, 2, 9, 0);
        one(60, 10, 2, 10, 0);
        one(60, 10, 2, 11, -2);
        one(60, 10, 2, MAX, -2);
        one(60, 9, 2, 10, -2);
        one(60, 11, 2, 10, 0);
        one(60, 0, 2, 10, -2);
        one(60, MIN, 2, 10, -2);
    }

    /** "period <= LAST". */
    private static void periodUpToLast() {
        for (int last : new int[] {2, 60, 20000}) {
            one(last, last - 1, 1, 1, 0);
            one(last, last, 1, 1, 0);
            one(last, last, last, last, 0);
            one(last, last + 1, 1, 1, -2);
            one(last, MAX, 1, 1, -2);
        }
        one(1, 1, 1, 1, 0);
        one(1, 2, 1, 1, -2);
    }

    private static void allThreeAtAllBoundaries() {
        for (int last : new int[] {1, 2, 20000}) {
            int[] values = {MIN, MIN + 1, -1, 0, 1, 2, 3, last - 1, last, last + 1, MAX - 1, MAX};
            for (int period : values) {
                for (int work : values) {
                    for (int deadline : values) {
                        boolean inOrder = work >= 1 && deadline >= work && period >= deadline && last >= period;
                        one(last, period, work, deadline, inOrder ? 0 : -2);
                    }
                }
            }
        }
    }

    /** "else NONE, if there is no number left". */
    private static void noNumberLeft() {
        for (int numbers : new int[] {1, 2, 39, 40}) {
            DeadlineBench bench = new DeadlineBench(numbers, 0, 0, 0, 60);
            for (int number = 0; number < numbers; number++) {
                CHECK.same(numbers + " numbers: TASK " + number, bench.addTask(10, 1, 10), number);
            }
            CHECK.same(numbers + " numbers: none left", bench.addTask(10, 1, 10), -1);
            CHECK.same(numbers + " numbers: LIVE TASKS", bench.count(1), numbers);
            bench.removeTask(numbers - 1);
            CHECK.same(numbers + " numbers: one left", bench.addTask(10, 1, 10), numbers - 1);
            CHECK.same(numbers + " numbers: none left again", bench.addTask(10, 1, 10), -1);
        }
    }

    /** "(-2 is asked first.)" */
    private static void orderIsAskedFirst() {
        for (int[] t : OUT_OF_ORDER) {
            Refused.check(CHECK, Story.FULL, told(t), bench -> bench.addTask(t[0], t[1], t[2]), -2);
        }
    }

    private static String told(int[] t) {
        return "addTask(" + t[0] + ", " + t[1] + ", " + t[2] + ")";
    }

    /** "A TASK comes with the least number that stands for none". */
    private static void leastNumberThatStandsForNone() {
        DeadlineBench bench = new DeadlineBench(40, 0, 0, 0, 60);
        for (int number = 0; number < 40; number++) {
            bench.addTask(10, 1, 10);
        }
        for (int number : new int[] {39, 20, 1, 0}) {
            CHECK.isTrue("removeTask(" + number + ")", bench.removeTask(number));
        }
        for (int number : new int[] {0, 1, 20, 39, -1}) {
            CHECK.same("the least number then", bench.addTask(10, 1, 10), number);
        }
    }

    /** Term 1: "the first one is RELEASED at the time that was NOW when the TASK was added": 0, within, and LAST. */
    private static void firstReleaseIsNow() {
        for (int now : new int[] {0, 1, 30, 59, 60}) {
            DeadlineBench bench = new DeadlineBench(1, 0, 0, 0, 60);
            bench.run(now);
            CHECK.same("addTask at " + now, bench.addTask(60, 2, 60), 0);
            CHECK.same("its first RELEASE", bench.task(0, 3), now);
            CHECK.same("tick() at " + now, bench.tick(), now == 60 ? -2 : 0);
            CHECK.same("its next RELEASE", bench.task(0, 3), now == 60 ? 60 : now + 60);
            CHECK.same("deadlineOf(0)", bench.deadlineOf(0), now == 60 ? -1 : now + 60);
        }
    }

    /** "What is refused changes nothing." */
    private static void refusedChangesNothing() {
        for (int[] t : OUT_OF_ORDER) {
            Refused.checkInAll(CHECK, told(t), bench -> bench.addTask(t[0], t[1], t[2]), -2);
        }
        Refused.check(CHECK, Story.FULL, "addTask(1, 1, 1)", bench -> bench.addTask(1, 1, 1), -1);
        Refused.check(CHECK, Story.FULL, "addTask(60, 60, 60)", bench -> bench.addTask(60, 60, 60), -1);
    }
}
