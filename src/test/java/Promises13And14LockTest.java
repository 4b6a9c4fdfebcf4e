/** Promises 13 and 14: owner and waiters. */
public final class Promises13And14LockTest {
    private static final Check CHECK = new Check("Promises13And14LockTest");

    public static void main(String[] args) {
        noSuchLock();
        heldWithinASection();
        manyWait();
        CHECK.end();
    }

    private static void noSuchLock() {
        DeadlineBench bench = new DeadlineBench(2, 2, 5, 5, 100);
        bench.addTask(10, 2, 10);
        bench.tick();
        int[] wrong = {2, -1, 16, Integer.MAX_VALUE, Integer.MIN_VALUE};
        for (int lock : wrong) {
            CHECK.same("owner(" + lock + ")", bench.owner(lock), -1);
            CHECK.same("waiters(" + lock + "): READY ones are none", bench.waiters(lock), 0);
        }
        DeadlineBench without = new DeadlineBench(2, 0, 5, 5, 100);
        CHECK.same("owner(0) without LOCKS", without.owner(0), -1);
        CHECK.same("waiters(0) without LOCKS", without.waiters(0), 0);
    }

    private static void heldWithinASection() {
        DeadlineBench bench = new DeadlineBench(2, 2, 5, 5, 100);
        bench.addTask(10, 1, 10);
        bench.addTask(50, 4, 50);
        bench.addSection(1, 1, 1, 2);
        int[] due = {-1, -1, 1, -1, -1, -1};
        for (int time = 0; time < due.length; time++) {
            bench.tick();
            CHECK.same("owner(1) behind tick " + time, bench.owner(1), due[time]);
            CHECK.same("owner(0) behind tick " + time, bench.owner(0), -1);
            CHECK.same("waiters(1) behind tick " + time, bench.waiters(1), 0);
        }
    }

    private static void manyWait() {
        DeadlineBench bench = new DeadlineBench(5, 1, 9, 5, 200);
        bench.addTask(190, 6, 190);
        bench.addSection(0, 0, 0, 5);
        bench.tick();
        for (int task = 1; task <= 4; task++) {
            bench.addTask(190, 1, 150 - 20 * task);
            bench.addSection(task, 0, 0, 1);
            bench.tick();
            int waiting = task < 4 ? task : 3;
            CHECK.same("waiters(0) with " + task + " more", bench.waiters(0), waiting);
        }
        CHECK.same("owner(0): the one that is DUE first", bench.owner(0), 4);
        for (int task = 4; task >= 1; task--) {
            CHECK.same("tick()", bench.tick(), task);
            CHECK.same("owner(0) next", bench.owner(0), task > 1 ? task - 1 : -1);
            CHECK.same("waiters(0) then", bench.waiters(0), Math.max(0, task - 2));
        }
    }
}
