/** The boundary cases of promises 13 and 14. */
public final class Boundaries13And14LockTest {
    private static final Check CHECK = new Check("Boundaries13And14LockTest");

    public static void main(String[] args) {
        noneSuch();
        freeOrHeld();
        firstAndLastLock();
        fromNoWaiterToAll();
        changesNothing();
        CHECK.end();
    }

    private static void lock(String story, DeadlineBench bench, int lock, int owner, int waiters) {
        CHECK.same(story + ": owner(" + lock + ")", bench.owner(lock), owner);
        CHECK.same(story + ": waiters(" + lock + ")", bench.waiters(lock), waiters);
    }

    /** "NONE if it is FREE, or there is none such", "0 if there is none such". */
    private static void noneSuch() {
        for (Story story : Story.values()) {
            for (int lock : Ints.outside(0, Story.LOCKS - 1)) {
                lock(story.toString(), story.tell(), lock, -1, 0);
            }
        }
        DeadlineBench without = new DeadlineBench(1, 0, 5, 0, 60);
        without.addTask(50, 2, 50);
        without.tick();
        for (int lock : Ints.around(0, 0)) {
            lock("without LOCKS", without, lock, -1, 0);
        }
        DeadlineBench most = new DeadlineBench(1, 16, 5, 0, 60);
        most.addTask(50, 2, 50);
        most.tick();
        for (int lock : Ints.around(0, 15)) {
            lock("16 that are FREE", most, lock, -1, 0);
        }
    }

    private static void freeOrHeld() {
        DeadlineBench waiting = Story.WAITING.tell();
        lock("WAITING", waiting, 0, 0, 1);
        lock("WAITING", waiting, 1, 1, 0);
        lock("WAITING", waiting, 2, -1, 0);
        waiting.removeTask(0);
        lock("given on", waiting, 0, 1, 0);
        waiting.removeTask(1);
        lock("let go", waiting, 0, -1, 0);
        lock("let go", waiting, 1, -1, 0);
        DeadlineBench ring = Story.RING.tell();
        lock("RING", ring, 0, 0, 1);
        lock("RING", ring, 1, 1, 1);
    }

    private static void firstAndLastLock() {
        DeadlineBench bench = new DeadlineBench(40, 16, 120, 0, 60);
        for (int number = 0; number < 40; number++) {
            bench.addTask(60, 2, 60 - number);
        }
        bench.addSection(39, 0, 15, 2);
        bench.addSection(39, 0, 0, 2);
        bench.tick();
        lock("held by 39", bench, 15, 39, 0);
        lock("held by 39", bench, 0, 39, 0);
        lock("FREE", bench, 1, -1, 0);
        lock("FREE", bench, 14, -1, 0);
        bench.tick();
        lock("let go", bench, 15, -1, 0);
        lock("let go", bench, 0, -1, 0);
    }

    /** 39 holds the LOCK; all others come at once, DUE at once, and wait; then each has it in its turn. */
    private static void fromNoWaiterToAll() {
        DeadlineBench bench = new DeadlineBench(40, 1, 120, 0, 200);
        for (int number = 0; number < 40; number++) {
            bench.addTask(200, 3, 200);
        }
        for (int number = 0; number < 39; number++) {
            bench.removeTask(number);
        }
        bench.addSection(39, 0, 0, 3);
        bench.tick();
        lock("39 holds it", bench, 0, 39, 0);
        for (int number = 0; number < 39; number++) {
            bench.addTask(200, 1, 100);
            bench.addSection(number, 0, 0, 1);
        }
        lock("before the tick", bench, 0, 39, 0);
        CHECK.same("39 runs", bench.tick(), 39);
        lock("all others wait", bench, 0, 39, 39);
        CHECK.same("39 runs on", bench.tick(), 39);
        lock("39 let go", bench, 0, 0, 38);
        for (int number = 0; number < 39; number++) {
            CHECK.same("in its turn", bench.tick(), number);
            lock("behind " + number, bench, 0, number < 38 ? number + 1 : -1, Math.max(0, 37 - number));
        }
    }

    private static void changesNothing() {
        for (int lock = -1; lock <= Story.LOCKS; lock++) {
            int number = lock;
            for (Story story : Story.values()) {
                DeadlineBench bench = story.tell();
                Refused.check(CHECK, story, "owner(" + lock + ")", b -> b.owner(number), bench.owner(lock));
                Refused.check(CHECK, story, "waiters(" + lock + ")", b -> b.waiters(number), bench.waiters(lock));
            }
        }
    }
}
