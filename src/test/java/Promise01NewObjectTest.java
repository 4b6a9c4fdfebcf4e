/** Promise 1: what a new object has, and which sizes count as the nearest ones that can be. */
public final class Promise01NewObjectTest {
    private static final Check CHECK = new Check("Promise01NewObjectTest");

    public static void main(String[] args) {
        newObjectIsEmpty();
        sizesAreThoseAskedFor();
        tooSmallCountsAsLeast();
        tooGreatCountsAsMost();
        CHECK.end();
    }

    private static void newObjectIsEmpty() {
        DeadlineBench bench = new DeadlineBench(3, 2, 5, 4, 70);
        for (int what = 0; what <= 5; what++) {
            CHECK.same("count(" + what + ") of a new one", bench.count(what), 0);
        }
        CHECK.same("count(6) of a new one", bench.count(6), 70);
        CHECK.same("missCount() of a new one", bench.missCount(), 0);
        CHECK.same("owner(1) of a new one", bench.owner(1), -1);
        CHECK.same("ran(0) of a new one", bench.ran(0), -2);
        CHECK.same("NONE", DeadlineBench.NONE, -1);
    }

    private static void sizesAreThoseAskedFor() {
        CHECK.same("TASKS of 3", tasksThatFit(new DeadlineBench(3, 0, 0, 0, 70)), 3);
        CHECK.same("LOCKS of 2", locksThatThereAre(new DeadlineBench(1, 2, 50, 0, 70)), 2);
        CHECK.same("SECTIONS of 5", sectionsThatFit(new DeadlineBench(1, 1, 5, 0, 1000)), 5);
        CHECK.same("MISSES kept of 4", missesKept(new DeadlineBench(2, 0, 0, 4, 20000)), 4);
    }

    private static void tooSmallCountsAsLeast() {
        int[] small = {-1, Integer.MIN_VALUE};
        for (int size : small) {
            CHECK.same("TASKS of " + size, tasksThatFit(new DeadlineBench(size, 0, 0, 0, 70)), 1);
            CHECK.same("LOCKS of " + size, locksThatThereAre(new DeadlineBench(1, size, 50, 0, 70)), 0);
            CHECK.same("SECTIONS of " + size, sectionsThatFit(new DeadlineBench(1, 1, size, 0, 1000)), 0);
            CHECK.same("MISSES kept of " + size, missesKept(new DeadlineBench(2, 0, 0, size, 20000)), 0);
            CHECK.same("LAST of " + size, new DeadlineBench(1, 1, 1, 1, size).count(6), 1);
        }
        CHECK.same("TASKS of 0", tasksThatFit(new DeadlineBench(0, 0, 0, 0, 70)), 1);
        CHECK.same("LOCKS of 0", locksThatThereAre(new DeadlineBench(1, 0, 50, 0, 70)), 0);
        CHECK.same("LAST of 0", new DeadlineBench(1, 1, 1, 1, 0).count(6), 1);
        CHECK.same("LAST of 1", new DeadlineBench(1, 1, 1, 1, 1).count(6), 1);
    }

    private static void tooGreatCountsAsMost() {
        int[] great = {20001, Integer.MAX_VALUE};
        for (int size : great) {
            CHECK.same("TASKS of " + size, tasksThatFit(new DeadlineBench(size, 0, 0, 0, 70)), 40);
            CHECK.same("LOCKS of " + size, locksThatThereAre(new DeadlineBench(1, size, 50, 0, 70)), 16);
            CHECK.same("SECTIONS of " + size, sectionsThatFit(new DeadlineBench(1, 1, size, 0, 1000)), 120);
            CHECK.same("MISSES kept of " + size, missesKept(new DeadlineBench(2, 0, 0, size, 20000)), 100);
            CHECK.same("LAST of " + size, new DeadlineBench(1, 1, 1, 1, size).count(6), 20000);
        }
        CHECK.same("TASKS of 40", tasksThatFit(new DeadlineBench(40, 0, 0, 0, 70)), 40);
        CHECK.same("TASKS of 41", tasksThatFit(new DeadlineBench(41, 0, 0, 0, 70)), 40);
        CHECK.same("LOCKS of 16", locksThatThereAre(new DeadlineBench(1, 16, 50, 0, 70)), 16);
        CHECK.same("LOCKS of 17", locksThatThereAre(new DeadlineBench(1, 17, 50, 0, 70)), 16);
        CHECK.same("SECTIONS of 121", sectionsThatFit(new DeadlineBench(1, 1, 121, 0, 1000)), 120);
        CHECK.same("MISSES kept of 101", missesKept(new DeadlineBench(2, 0, 0, 101, 20000)), 100);
        CHECK.same("LAST of 20000", new DeadlineBench(1, 1, 1, 1, 20000).count(6), 20000);
    }

    private static int tasksThatFit(DeadlineBench bench) {
        int added = 0;
        while (added < 60 && bench.addTask(50, 1, 50) >= 0) {
            added++;
        }
        return added;
    }

    private static int locksThatThereAre(DeadlineBench bench) {
        bench.addTask(50, 50, 50);
        int found = 0;
        for (int lock = 0; lock < 30; lock++) {
            if (bench.addSection(0, lock, lock, 1)) {
                found++;
            }
        }
        return found;
    }

    private static int sectionsThatFit(DeadlineBench bench) {
        bench.addTask(1000, 1000, 1000);
        int added = 0;
        while (added < 200 && bench.addSection(0, added, 0, 1)) {
            added++;
        }
        return added;
    }

    private static int missesKept(DeadlineBench bench) {
        bench.addTask(1, 1, 1);
        bench.addTask(2, 1, 2);
        for (int i = 0; i < 130; i++) {
            bench.run(2000);
        }
        CHECK.same("missCount() behind 130 runs, each up to a MISS", bench.missCount(), 130);
        int kept = 0;
        while (kept < 130 && bench.miss(kept, 0) == 1) {
            kept++;
        }
        return kept;
    }
}
