/** The boundary cases of promise 3: each ground on which a SECTION is refused. */
public final class Boundary03AddSectionTest {
    private static final Check CHECK = new Check("Boundary03AddSectionTest");
    private static final int MIN = Integer.MIN_VALUE;
    private static final int MAX = Integer.MAX_VALUE;

    public static void main(String[] args) {
        noSuchTask();
        noSuchLock();
        beginBelowZero();
        shorterThanOne();
        endsBehindTheWork();
        beginAndLengthAtAllBoundaries();
        overlapsOtherThanAsTold();
        asManyAsCanBe();
        roomOfRemovedTasks();
        pendingJob();
        pendingJobThatIsDropped();
        refusedChangesNothing();
        CHECK.end();
    }

    private static String told(int... s) {
        return "addSection(" + s[0] + ", " + s[1] + ", " + s[2] + ", " + s[3] + ")";
    }

    /** On a new object with a TASK 0 of 10 units, a removed TASK 1, and a number 2 that never stood for one; 3 LOCKS. */
    private static void one(boolean due, int task, int begin, int lock, int length) {
        DeadlineBench bench = new DeadlineBench(3, 3, 5, 1, 60);
        bench.addTask(50, 10, 50);
        bench.addTask(50, 10, 50);
        bench.removeTask(1);
        String call = told(task, begin, lock, length);
        CHECK.same(call, bench.addSection(task, begin, lock, length) ? 1 : 0, due ? 1 : 0);
        CHECK.same(call + ": SECTIONS", bench.count(3), due ? 1 : 0);
        CHECK.same(call + ": SECTIONS of 0", bench.task(0, 4), due ? 1 : 0);
    }

    /** "False if there is no such TASK". */
    private static void noSuchTask() {
        one(true, 0, 0, 0, 1);
        one(false, 1, 0, 0, 1);
        one(false, 2, 0, 0, 1);
        for (int task : Ints.outside(0, 2)) {
            one(false, task, 0, 0, 1);
        }
        for (int task : Ints.outside(0, 39)) {
            DeadlineBench bench = new DeadlineBench(40, 1, 5, 1, 60);
            for (int number = 0; number < 40; number++) {
                bench.addTask(50, 10, 50);
            }
            CHECK.isFalse("of 40 TASKS: " + told(task, 0, 0, 1), bench.addSection(task, 0, 0, 1));
            CHECK.isTrue("of 40 TASKS the last", bench.addSection(39, 0, 0, 1));
            CHECK.same("SECTIONS of the last", bench.task(39, 4), 1);
        }
    }

    /** "no such ... LOCK". */
    private static void noSuchLock() {
        for (int lock = 0; lock < 3; lock++) {
            one(true, 0, 0, lock, 1);
        }
        for (int lock : Ints.outside(0, 2)) {
            one(false, 0, 0, lock, 1);
        }
        DeadlineBench without = new DeadlineBench(1, 0, 5, 1, 60);
        without.addTask(50, 10, 50);
        for (int lock : Ints.around(0, 0)) {
            CHECK.isFalse("without LOCKS: " + told(0, 0, lock, 1), without.addSection(0, 0, lock, 1));
        }
        DeadlineBench most = new DeadlineBench(1, 16, 120, 1, 60);
        most.addTask(50, 10, 50);
        CHECK.isTrue("the last of 16 LOCKS", most.addSection(0, 0, 15, 1));
        CHECK.isFalse("behind the last of 16 LOCKS", most.addSection(0, 0, 16, 1));
    }

    /** "its begin is below 0". */
    private static void beginBelowZero() {
        one(true, 0, 1, 0, 1);
        one(true, 0, 0, 0, 1);
        for (int begin : new int[] {-1, -2, -10, MIN + 1, MIN}) {
            for (int length : new int[] {1, 2, 10, 11, MAX}) {
                one(false, 0, begin, 0, length);
            }
        }
    }

    /** "it is shorter than 1". */
    private static void shorterThanOne() {
        one(true, 0, 5, 0, 2);
        one(true, 0, 5, 0, 1);
        for (int length : new int[] {0, -1, -5, MIN + 1, MIN}) {
            for (int begin : new int[] {0, 5, 9, 10, 11, MAX}) {
                one(false, 0, begin, 0, length);
            }
        }
    }

    /** "or it ends behind the WORK". */
    private static void endsBehindTheWork() {
        one(true, 0, 0, 0, 9);
        one(true, 0, 0, 0, 10);
        one(false, 0, 0, 0, 11);
        one(true, 0, 8, 0, 1);
        one(true, 0, 9, 0, 1);
        one(false, 0, 9, 0, 2);
        one(false, 0, 10, 0, 1);
        one(false, 0, 1, 0, MAX);
        one(false, 0, MAX, 0, 1);
        one(false, 0, MAX, 0, MAX);
        DeadlineBench longest = new DeadlineBench(1, 1, 5, 1, 20000);
        longest.addTask(20000, 20000, 20000);
        CHECK.isFalse("one unit more than the longest WORK", longest.addSection(0, 0, 0, 20001));
        CHECK.isFalse("behind the longest WORK", longest.addSection(0, 20000, 0, 1));
        CHECK.isTrue("all of the longest WORK", longest.addSection(0, 0, 0, 20000));
    }

    private static void beginAndLengthAtAllBoundaries() {
        int[] values = {MIN, MIN + 1, -10, -1, 0, 1, 2, 9, 10, 11, MAX - 10, MAX - 9, MAX - 1, MAX};
        for (int begin : values) {
            for (int length : values) {
                one(begin >= 0 && length >= 1 && (long) begin + length <= 10, 0, begin, 0, length);
            }
        }
    }

    /** "it OVERLAPS another one other than as told": all pairs of SECTIONS in 5 units, unit by unit. */
    private static void overlapsOtherThanAsTold() {
        for (int begin = 0; begin < 5; begin++) {
            for (int length = 1; begin + length <= 5; length++) {
                for (int next = 0; next < 5; next++) {
                    for (int nextLength = 1; next + nextLength <= 5; nextLength++) {
                        pair(begin, length, next, nextLength, 0);
                        pair(begin, length, next, nextLength, 1);
                    }
                }
            }
        }
    }

    private static void pair(int begin, int length, int next, int nextLength, int nextLock) {
        int first = ((1 << length) - 1) << begin;
        int second = ((1 << nextLength) - 1) << next;
        int both = first & second;
        boolean due = both == 0 || (both == first || both == second) && nextLock != 0;
        DeadlineBench bench = new DeadlineBench(2, 2, 5, 1, 60);
        bench.addTask(50, 5, 50);
        bench.addTask(50, 5, 50);
        String story = told(0, begin, 0, length) + ", then " + told(0, next, nextLock, nextLength);
        CHECK.isTrue(story + ": the first", bench.addSection(0, begin, 0, length));
        CHECK.same(story, bench.addSection(0, next, nextLock, nextLength) ? 1 : 0, due ? 1 : 0);
        CHECK.same(story + ": SECTIONS", bench.task(0, 4), due ? 2 : 1);
        CHECK.isTrue(story + ": of another TASK", bench.addSection(1, next, nextLock, nextLength));
    }

    /** "there are as many SECTIONS as can be". */
    private static void asManyAsCanBe() {
        for (int most : new int[] {0, 1, 2, 119, 120}) {
            DeadlineBench bench = new DeadlineBench(2, 2, most, 1, 200);
            bench.addTask(200, 200, 200);
            bench.addTask(200, 200, 200);
            for (int i = 0; i < most; i++) {
                CHECK.isTrue("SECTION " + i + " of " + most, bench.addSection(i % 2, i, i % 2, 1));
            }
            CHECK.isFalse("one more of 0 than " + most, bench.addSection(0, 190, 0, 1));
            CHECK.isFalse("one more of 1 than " + most, bench.addSection(1, 190, 1, 1));
            CHECK.same("SECTIONS of " + most, bench.count(3), most);
        }
    }

    private static void roomOfRemovedTasks() {
        DeadlineBench bench = new DeadlineBench(3, 1, 3, 1, 200);
        for (int task = 0; task < 3; task++) {
            bench.addTask(50, 10, 50);
            CHECK.isTrue("SECTION of " + task, bench.addSection(task, 0, 0, 1));
        }
        CHECK.isFalse("no room", bench.addSection(2, 5, 0, 1));
        bench.removeTask(0);
        CHECK.isTrue("the room of that of 0", bench.addSection(2, 5, 0, 1));
        CHECK.isFalse("no room again", bench.addSection(2, 7, 0, 1));
        bench.removeTask(2);
        CHECK.isTrue("the room of one of 2", bench.addSection(1, 5, 0, 1));
        CHECK.isTrue("the room of the other of 2", bench.addSection(1, 7, 0, 1));
        CHECK.isFalse("no room at last", bench.addSection(1, 9, 0, 1));
    }

    /** "or the TASK has a PENDING JOB": from the tick of its RELEASE on, till the tick in which it is done. */
    private static void pendingJob() {
        boolean[] pendingAt = {false, true, false, false, false, false, true, false};
        for (int now = 0; now < pendingAt.length; now++) {
            DeadlineBench bench = new DeadlineBench(2, 2, 9, 1, 60);
            bench.addTask(5, 2, 4);
            bench.run(now);
            CHECK.same("at " + now, bench.addSection(0, 0, 0, 1) ? 1 : 0, pendingAt[now] ? 0 : 1);
            CHECK.same("at " + now + ": SECTIONS", bench.count(3), pendingAt[now] ? 0 : 1);
        }
        CHECK.isFalse("of one that waits", Story.WAITING.tell().addSection(1, 5, 2, 1));
        CHECK.isTrue("of one that is done", Story.WAITING.tell().addSection(2, 0, 2, 1));
        CHECK.isFalse("of a PENDING one at LAST", Story.AT_LAST.tell().addSection(0, 9, 2, 1));
        CHECK.isTrue("of one that is done at LAST", Story.AT_LAST.tell().addSection(2, 0, 2, 1));
    }

    /** The JOB of 1 is DUE at 4: it is PENDING at 4 still, and dropped in the tick then. */
    private static void pendingJobThatIsDropped() {
        for (int period = 4; period <= 5; period++) {
            boolean[] pendingAt = {false, true, true, true, true, period == 4};
            for (int now = 0; now < pendingAt.length; now++) {
                DeadlineBench bench = new DeadlineBench(2, 2, 9, 1, 60);
                bench.addTask(4, 4, 4);
                bench.addTask(period, 2, 4);
                bench.run(now);
                CHECK.same("PERIOD " + period + ", at " + now, bench.addSection(1, 0, 0, 1) ? 1 : 0, pendingAt[now] ? 0 : 1);
            }
        }
    }

    /** "What is refused changes nothing." */
    private static void refusedChangesNothing() {
        int[][] wrong = {
            {-1, 0, 2, 1}, {4, 0, 2, 1}, {MIN, 0, 2, 1}, {MAX, 0, 2, 1}, {2, 0, -1, 1}, {2, 0, 3, 1}, {2, 0, MIN, 1},
            {2, 0, MAX, 1}, {2, -1, 2, 1}, {2, MIN, 2, 1}, {2, 0, 2, 0}, {2, 0, 2, MIN}, {2, 0, 2, 4}, {2, 3, 2, 1},
            {2, MAX, 2, 1}, {2, 1, 2, MAX}, {2, MAX, 2, MAX}};
        for (int[] s : wrong) {
            Refused.checkInAll(CHECK, told(s), bench -> bench.addSection(s[0], s[1], s[2], s[3]) ? 1 : 0, 0);
        }
        refused(Story.NEW, 0, 0, 0, 1);
        refused(Story.WAITING, 3, 0, 2, 1);
        refused(Story.WAITING, 0, 9, 2, 1);
        refused(Story.WAITING, 1, 5, 2, 1);
        refused(Story.RING, 0, 3, 2, 1);
        refused(Story.LATE, 1, 1, 2, 1);
        refused(Story.FULL, 3, 2, 2, 1);
        refused(Story.FULL, 0, 0, 1, 2);
        refused(Story.AT_LAST, 0, 9, 2, 1);
    }

    private static void refused(Story story, int... s) {
        Refused.check(CHECK, story, told(s), bench -> bench.addSection(s[0], s[1], s[2], s[3]) ? 1 : 0, 0);
    }
}
