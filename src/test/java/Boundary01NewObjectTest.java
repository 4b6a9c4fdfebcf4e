/** The boundary cases of promise 1: each size at, within and beyond its bounds. */
public final class Boundary01NewObjectTest {
    private static final Check CHECK = new Check("Boundary01NewObjectTest");
    private static final int MIN = Integer.MIN_VALUE;
    private static final int MAX = Integer.MAX_VALUE;

    public static void main(String[] args) {
        numbersOfTasks();
        locks();
        sections();
        missesThatTheLogKeeps();
        last();
        eachSizeForItself();
        nowIsZero();
        CHECK.end();
    }

    /** "So many numbers of TASKS (1 .. 40)". */
    private static void numbersOfTasks() {
        for (int size : Ints.around(1, 40)) {
            hasTasks("TASKS of " + size, new DeadlineBench(size, 1, 1, 1, 100), Ints.nearest(size, 1, 40));
        }
    }

    private static void hasTasks(String story, DeadlineBench bench, int due) {
        for (int number = 0; number < due; number++) {
            CHECK.same(story + ": TASK " + number, bench.addTask(1, 1, 1), number);
        }
        CHECK.same(story + ": one more", bench.addTask(1, 1, 1), -1);
        CHECK.same(story + ": LIVE TASKS", bench.count(1), due);
        CHECK.same(story + ": the last one", bench.task(due - 1, 0), 1);
        CHECK.same(story + ": the one behind", bench.task(due, 0), -1);
    }

    /** "LOCKS (0 .. 16)". */
    private static void locks() {
        for (int size : Ints.around(0, 16)) {
            String story = "LOCKS of " + size;
            int due = Ints.nearest(size, 0, 16);
            DeadlineBench bench = new DeadlineBench(1, size, 120, 1, 100);
            hasLocks(story, bench, due);
            bench.tick();
            CHECK.same(story + ": LOCKS that are held", bench.count(4), due);
            CHECK.same(story + ": owner of the last one", bench.owner(due - 1), due == 0 ? -1 : 0);
            CHECK.same(story + ": owner of the one behind", bench.owner(due), -1);
        }
    }

    private static void hasLocks(String story, DeadlineBench bench, int due) {
        int all = bench.count(6);
        bench.addTask(all, all, all);
        for (int lock = 0; lock < due; lock++) {
            CHECK.isTrue(story + ": LOCK " + lock, bench.addSection(0, 0, lock, all));
        }
        CHECK.isFalse(story + ": one more", bench.addSection(0, 0, due, all));
    }

    /** "SECTIONS that there can be at one time (0 .. 120)". */
    private static void sections() {
        for (int size : Ints.around(0, 120)) {
            hasSections("SECTIONS of " + size, new DeadlineBench(1, 1, size, 1, 200), Ints.nearest(size, 0, 120));
        }
    }

    private static void hasSections(String story, DeadlineBench bench, int due) {
        bench.addTask(200, 200, 200);
        for (int begin = 0; begin < due; begin++) {
            CHECK.isTrue(story + ": SECTION " + begin, bench.addSection(0, begin, 0, 1));
        }
        CHECK.isFalse(story + ": one more", bench.addSection(0, due, 0, 1));
        CHECK.same(story + ": SECTIONS", bench.count(3), due);
        CHECK.same(story + ": SECTIONS of 0", bench.task(0, 4), due);
    }

    /** "MISSES that the LOG keeps (0 .. 100)". */
    private static void missesThatTheLogKeeps() {
        for (int size : Ints.around(0, 100)) {
            keepsMisses("LOG of " + size, new DeadlineBench(40, 1, 1, size, 100), Ints.nearest(size, 0, 100));
        }
    }

    /** Of 40 TASKS that want each tick all but 0 are late in each tick: 39 MISSES at a time. */
    private static void keepsMisses(String story, DeadlineBench bench, int due) {
        for (int number = 0; number < 40; number++) {
            bench.addTask(1, 1, 1);
        }
        for (int time = 0; time < 4; time++) {
            bench.tick();
        }
        CHECK.same(story + ": missCount()", bench.missCount(), 117);
        for (int i = 0; i < due; i++) {
            CHECK.same(story + ": miss(" + i + ", 0)", bench.miss(i, 0), 1 + i % 39);
            CHECK.same(story + ": miss(" + i + ", 1)", bench.miss(i, 1), 1 + i / 39);
        }
        CHECK.same(story + ": the one behind, its TASK", bench.miss(due, 0), -1);
        CHECK.same(story + ": the one behind, its time", bench.miss(due, 1), -1);
    }

    /** "and LAST (1 .. 20000)". */
    private static void last() {
        for (int size : Ints.around(1, 20000)) {
            hasLast("LAST of " + size, new DeadlineBench(2, 1, 1, 1, size), Ints.nearest(size, 1, 20000));
        }
    }

    private static void hasLast(String story, DeadlineBench bench, int due) {
        CHECK.same(story + ": count(6)", bench.count(6), due);
        CHECK.same(story + ": a PERIOD of it", bench.addTask(due, 1, 1), 0);
        CHECK.same(story + ": a PERIOD beyond it", bench.addTask(due + 1, 1, 1), -2);
        int ticks = 0;
        for (int i = 0; i < 11; i++) {
            ticks += bench.run(2000);
        }
        CHECK.same(story + ": TICKS that there can be", ticks, due);
        CHECK.same(story + ": one more", bench.tick(), -2);
    }

    /** "others count as the nearest of these": for each size whatever the others are. */
    private static void eachSizeForItself() {
        for (int bits = 0; bits < 32; bits++) {
            int[] size = new int[5];
            for (int i = 0; i < 5; i++) {
                size[i] = (bits >> i & 1) == 0 ? MIN : MAX;
            }
            String story = "sizes " + java.util.Arrays.toString(size);
            hasTasks(story, made(size), size[0] == MIN ? 1 : 40);
            if (size[2] == MAX) {
                hasLocks(story, made(size), size[1] == MIN ? 0 : 16);
            }
            if (size[1] == MAX && size[4] == MAX) {
                hasSections(story, made(size), size[2] == MIN ? 0 : 120);
            }
            if (size[0] == MAX && size[4] == MAX) {
                keepsMisses(story, made(size), size[3] == MIN ? 0 : 100);
            }
            CHECK.same(story + ": LAST", made(size).count(6), size[4] == MIN ? 1 : 20000);
        }
    }

    private static DeadlineBench made(int[] size) {
        return new DeadlineBench(size[0], size[1], size[2], size[3], size[4]);
    }

    /** "NOW is 0": whatever the sizes are. */
    private static void nowIsZero() {
        for (int size : Ints.around(1, 20000)) {
            DeadlineBench bench = new DeadlineBench(size, size, size, size, size);
            CHECK.same("NOW with sizes of " + size, bench.count(0), 0);
            CHECK.same("the first TASK with sizes of " + size, bench.addTask(1, 1, 1), 0);
            CHECK.same("its first RELEASE with sizes of " + size, bench.task(0, 3), 0);
            CHECK.same("ran(0) with sizes of " + size, bench.ran(0), -2);
        }
    }
}
