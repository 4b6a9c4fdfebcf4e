/** Promise 3: addSection. */
public final class Promise03AddSectionTest {
    private static final Check CHECK = new Check("Promise03AddSectionTest");

    public static void main(String[] args) {
        refusesWrongInputs();
        takesTheEdges();
        overlapsOnlyNestedWithTwoLocks();
        sectionsOfOtherTasksDoNotMatter();
        refusesBeyondTheMost();
        refusesWhilePending();
        CHECK.end();
    }

    private static DeadlineBench bench() {
        DeadlineBench bench = new DeadlineBench(3, 3, 20, 5, 200);
        bench.addTask(50, 10, 50);
        bench.addTask(50, 10, 50);
        return bench;
    }

    private static void refusesWrongInputs() {
        int max = Integer.MAX_VALUE;
        int min = Integer.MIN_VALUE;
        int[][] wrong = {
            {2, 0, 0, 1}, {3, 0, 0, 1}, {-1, 0, 0, 1}, {max, 0, 0, 1}, {min, 0, 0, 1},
            {0, 0, 3, 1}, {0, 0, -1, 1}, {0, 0, max, 1}, {0, 0, min, 1},
            {0, -1, 0, 1}, {0, -1, 0, 3}, {0, min, 0, 1}, {0, min, 0, max}, {0, 10, 0, 1}, {0, max, 0, 1}, {0, max, 0, max},
            {0, 0, 0, 0}, {0, 0, 0, -1}, {0, 0, 0, min}, {0, 0, 0, 11}, {0, 9, 0, 2}, {0, 1, 0, max}, {0, 5, 0, 6}};
        DeadlineBench bench = bench();
        for (int[] s : wrong) {
            CHECK.isFalse("addSection(" + s[0] + ", " + s[1] + ", " + s[2] + ", " + s[3] + ")",
                bench.addSection(s[0], s[1], s[2], s[3]));
        }
        CHECK.same("SECTIONS behind refusals", bench.count(3), 0);
        CHECK.same("SECTIONS of 0 behind refusals", bench.task(0, 4), 0);
    }

    private static void takesTheEdges() {
        DeadlineBench bench = bench();
        CHECK.isTrue("all of the WORK", bench.addSection(0, 0, 0, 10));
        CHECK.isTrue("the last unit", bench.addSection(0, 9, 2, 1));
        CHECK.isTrue("the first unit", bench.addSection(0, 0, 2, 1));
        CHECK.same("SECTIONS", bench.count(3), 3);
        CHECK.same("SECTIONS of 0", bench.task(0, 4), 3);
        CHECK.same("SECTIONS of 1", bench.task(1, 4), 0);
    }

    private static void overlapsOnlyNestedWithTwoLocks() {
        DeadlineBench bench = bench();
        CHECK.isTrue("units 3 to 6", bench.addSection(0, 3, 0, 4));
        CHECK.isFalse("over its begin", bench.addSection(0, 2, 1, 2));
        CHECK.isFalse("over its end", bench.addSection(0, 6, 1, 2));
        CHECK.isFalse("within, the same LOCK", bench.addSection(0, 4, 0, 1));
        CHECK.isFalse("around, the same LOCK", bench.addSection(0, 2, 0, 6));
        CHECK.isFalse("the same units, the same LOCK", bench.addSection(0, 3, 0, 4));
        CHECK.isTrue("the same units, another LOCK", bench.addSection(0, 3, 1, 4));
        CHECK.isTrue("up to its begin, the same LOCK", bench.addSection(0, 2, 0, 1));
        CHECK.isTrue("from its end on, the same LOCK", bench.addSection(0, 7, 0, 1));
        CHECK.isTrue("within both, a third LOCK", bench.addSection(0, 3, 2, 2));
        CHECK.isFalse("within one, over the other", bench.addSection(0, 4, 2, 2));
        CHECK.isFalse("around all, a LOCK that is within", bench.addSection(0, 0, 2, 10));
        CHECK.isFalse("from the same begin over an end", bench.addSection(0, 2, 1, 3));
        CHECK.same("SECTIONS", bench.count(3), 5);
        CHECK.isTrue("apart from all", bench.addSection(0, 0, 1, 2));
        CHECK.same("SECTIONS of 0", bench.task(0, 4), 6);
    }

    private static void sectionsOfOtherTasksDoNotMatter() {
        DeadlineBench bench = bench();
        CHECK.isTrue("of 0", bench.addSection(0, 3, 0, 4));
        CHECK.isTrue("of 1, the same", bench.addSection(1, 3, 0, 4));
        CHECK.isFalse("of 1, again", bench.addSection(1, 5, 0, 4));
        bench.removeTask(0);
        bench.addTask(50, 10, 50);
        CHECK.isTrue("of a new 0, over that of the one before", bench.addSection(0, 5, 0, 4));
    }

    private static void refusesBeyondTheMost() {
        DeadlineBench bench = new DeadlineBench(2, 1, 2, 0, 100);
        bench.addTask(50, 10, 50);
        bench.addTask(50, 10, 50);
        CHECK.isTrue("first of two", bench.addSection(0, 0, 0, 1));
        CHECK.isTrue("second of two", bench.addSection(1, 0, 0, 1));
        CHECK.isFalse("a third", bench.addSection(0, 2, 0, 1));
        bench.removeTask(1);
        CHECK.isTrue("one in the room of that of 1", bench.addSection(0, 2, 0, 1));
        CHECK.isFalse("a third again", bench.addSection(0, 4, 0, 1));
        CHECK.same("SECTIONS", bench.count(3), 2);
    }

    private static void refusesWhilePending() {
        DeadlineBench bench = new DeadlineBench(2, 2, 9, 0, 100);
        bench.addTask(5, 2, 5);
        CHECK.isTrue("before the first RELEASE", bench.addSection(0, 0, 0, 1));
        bench.tick();
        CHECK.isFalse("while PENDING", bench.addSection(0, 1, 0, 1));
        bench.tick();
        CHECK.isTrue("when the JOB is done", bench.addSection(0, 1, 0, 1));
        bench.run(4);
        CHECK.isFalse("while the next one is PENDING", bench.addSection(0, 1, 1, 1));
        CHECK.same("SECTIONS", bench.count(3), 2);
    }
}
