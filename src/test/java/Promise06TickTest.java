/** Promise 6: tick, with the points (1) to (4) of a TICK and what is told of LOCKS. */
public final class Promise06TickTest {
    private static final Check CHECK = new Check("Promise06TickTest");

    public static void main(String[] args) {
        dueFirstRunsFirst();
        likeOnesByTheirNumbers();
        noneReady();
        endsAtLast();
        missesAreDroppedBeforeReleases();
        missesByTheNumbersOfTasks();
        longestSectionFirst();
        ofLikeSectionsTheOneAddedFirst();
        goesOnBehindALockThatWasGivenOn();
        neighbouringSectionsOfOneLock();
        lockGoesToTheOneAheadByInheritance();
        lockGoesToTheLesserNumberOfLikeOnes();
        ringOfWaitingEndsWithAMiss();
        missesOfOneLock();
        missesOfOneTickGiveALockOn();
        CHECK.end();
    }

    private static void ticks(String story, DeadlineBench bench, int... due) {
        for (int i = 0; i < due.length; i++) {
            CHECK.same(story + ", tick " + i, bench.tick(), due[i]);
        }
    }

    private static void dueFirstRunsFirst() {
        DeadlineBench bench = new DeadlineBench(3, 0, 0, 0, 100);
        bench.addTask(50, 3, 30);
        bench.addTask(50, 2, 20);
        ticks("due first", bench, 1);
        bench.addTask(50, 1, 10);
        ticks("due first, one more", bench, 2, 1, 0, 0, 0, -1, -1);
    }

    private static void likeOnesByTheirNumbers() {
        DeadlineBench bench = new DeadlineBench(3, 0, 0, 0, 100);
        bench.addTask(50, 2, 30);
        bench.addTask(50, 1, 30);
        bench.addTask(50, 1, 30);
        ticks("like ones", bench, 0, 0, 1, 2, -1);
    }

    private static void noneReady() {
        DeadlineBench bench = new DeadlineBench(2, 0, 0, 0, 100);
        ticks("no TASK", bench, -1, -1);
        CHECK.same("NOW", bench.count(0), 2);
        bench.addTask(3, 1, 2);
        ticks("each third tick", bench, 0, -1, -1, 0, -1, -1, 0);
        CHECK.same("ticks in which none ran", bench.count(5), 6);
    }

    private static void endsAtLast() {
        DeadlineBench bench = new DeadlineBench(2, 0, 0, 5, 3);
        bench.addTask(3, 3, 3);
        bench.addTask(3, 1, 3);
        ticks("up to LAST", bench, 0, 0, 0, -2, -2);
        CHECK.same("NOW is LAST", bench.count(0), 3);
        CHECK.same("what is DUE at LAST is no MISS", bench.missCount(), 0);
        CHECK.same("it is PENDING", bench.remaining(1), 1);
        CHECK.same("nothing is RELEASED at LAST", bench.task(0, 5), 1);
        CHECK.same("no TICK is counted", bench.ran(3), -2);
        CHECK.same("none ran is not counted", bench.count(5), 0);
        CHECK.isTrue("removeTask(1) at LAST", bench.removeTask(1));
        CHECK.same("addTask at LAST", bench.addTask(2, 1, 1), 1);
        CHECK.same("its JOB would come", bench.task(1, 3), 3);
    }

    private static void missesAreDroppedBeforeReleases() {
        DeadlineBench bench = new DeadlineBench(2, 0, 0, 5, 100);
        bench.addTask(4, 4, 4);
        bench.addTask(4, 2, 4);
        ticks("0 takes all", bench, 0, 0, 0, 0);
        CHECK.same("no MISS before it is DUE", bench.missCount(), 0);
        CHECK.same("remaining(1) before", bench.remaining(1), 2);
        CHECK.same("tick() with the MISS", bench.tick(), 0);
        CHECK.same("a MISS", bench.missCount(), 1);
        CHECK.same("the next JOB of 1 is PENDING", bench.deadlineOf(1), 8);
        CHECK.same("the next JOB of 0 is PENDING", bench.remaining(0), 3);
        CHECK.same("JOBS RELEASED of 1", bench.task(1, 5), 2);
    }

    private static void missesByTheNumbersOfTasks() {
        DeadlineBench bench = new DeadlineBench(4, 0, 0, 5, 100);
        bench.addTask(20, 3, 5);
        bench.addTask(20, 5, 5);
        bench.addTask(20, 2, 5);
        bench.removeTask(0);
        bench.addTask(20, 1, 5);
        bench.addTask(20, 4, 5);
        ticks("up to DUE", bench, 0, 1, 1, 1, 1, -1);
        CHECK.same("three MISSES", bench.missCount(), 3);
        CHECK.same("first", bench.miss(0, 0), 1);
        CHECK.same("second", bench.miss(1, 0), 2);
        CHECK.same("third", bench.miss(2, 0), 3);
    }

    private static DeadlineBench oneHoldsLockTwo() {
        DeadlineBench bench = new DeadlineBench(3, 3, 9, 5, 100);
        bench.addTask(90, 3, 90);
        bench.addSection(0, 0, 2, 3);
        bench.tick();
        bench.addTask(50, 3, 20);
        return bench;
    }

    private static void longestSectionFirst() {
        DeadlineBench bench = oneHoldsLockTwo();
        bench.addSection(1, 0, 0, 1);
        bench.addSection(1, 0, 2, 2);
        bench.addSection(1, 0, 1, 3);
        ticks("longest first", bench, 0);
        CHECK.same("owner of the longest", bench.owner(1), 1);
        CHECK.same("owner of the shortest", bench.owner(0), -1);
        CHECK.same("waits for the middle one", bench.waitsFor(1), 2);
    }

    private static void ofLikeSectionsTheOneAddedFirst() {
        DeadlineBench bench = oneHoldsLockTwo();
        bench.addSection(1, 0, 0, 2);
        bench.addSection(1, 0, 2, 2);
        bench.addSection(1, 0, 1, 2);
        ticks("added first", bench, 0);
        CHECK.same("owner of the one added first", bench.owner(0), 1);
        CHECK.same("waits for the one added second", bench.waitsFor(1), 2);
        CHECK.same("owner of the one added third", bench.owner(1), -1);
    }

    private static void goesOnBehindALockThatWasGivenOn() {
        DeadlineBench bench = oneHoldsLockTwo();
        bench.addSection(1, 0, 0, 2);
        bench.addSection(1, 0, 1, 3);
        bench.addSection(1, 0, 2, 3);
        ticks("given on", bench, 0, 0);
        CHECK.same("the LOCK was given on", bench.owner(2), 1);
        CHECK.same("it is READY", bench.waitsFor(1), -1);
        CHECK.same("the next SECTION waits till it is TAKEN UP", bench.owner(0), -1);
        CHECK.same("0 is done", bench.task(0, 6), 1);
        ticks("TAKEN UP", bench, 1);
        CHECK.same("the next SECTION", bench.owner(0), 1);
        CHECK.same("LOCKS held", bench.count(4), 3);
        ticks("the short SECTION ends", bench, 1);
        CHECK.same("owner of the short one", bench.owner(0), -1);
        CHECK.same("LOCKS held then", bench.count(4), 2);
        ticks("all end", bench, 1, -1);
        CHECK.same("LOCKS held at last", bench.count(4), 0);
    }

    private static void neighbouringSectionsOfOneLock() {
        DeadlineBench bench = new DeadlineBench(2, 1, 9, 5, 100);
        bench.addTask(90, 4, 90);
        bench.addSection(0, 2, 0, 2);
        bench.addSection(0, 0, 0, 2);
        ticks("first unit", bench, 0);
        CHECK.same("held within", bench.owner(0), 0);
        ticks("second unit", bench, 0);
        CHECK.same("FREE between", bench.owner(0), -1);
        ticks("third unit", bench, 0);
        CHECK.same("held again", bench.owner(0), 0);
        ticks("fourth unit", bench, 0);
        CHECK.same("FREE at last", bench.owner(0), -1);
    }

    private static void lockGoesToTheOneAheadByInheritance() {
        DeadlineBench bench = new DeadlineBench(4, 2, 9, 5, 200);
        bench.addTask(100, 10, 100);
        bench.addSection(0, 0, 0, 4);
        ticks("0 holds LOCK 0", bench, 0);
        bench.addTask(100, 5, 90);
        bench.addSection(1, 0, 1, 5);
        bench.addSection(1, 1, 0, 1);
        ticks("1 holds LOCK 1, then waits for LOCK 0", bench, 1, 0);
        CHECK.same("0 inherits of 1", bench.effective(0), 91);
        bench.addTask(100, 1, 50);
        bench.addSection(2, 0, 0, 1);
        ticks("2 waits for LOCK 0", bench, 0);
        CHECK.same("0 inherits of 2", bench.effective(0), 53);
        CHECK.same("1 inherits nothing", bench.effective(1), 91);
        bench.addTask(100, 1, 26);
        bench.addSection(3, 0, 1, 1);
        ticks("3 waits for LOCK 1, 0 lets go", bench, 0);
        CHECK.same("1 has LOCK 0 by what it inherits of 3", bench.owner(0), 1);
        CHECK.same("2 waits on", bench.waitsFor(2), 0);
        CHECK.same("1 inherits of 3", bench.effective(1), 30);
        CHECK.same("0 inherits no more", bench.effective(0), 100);
        ticks("1 ends the inner SECTION", bench, 1);
        CHECK.same("2 has LOCK 0", bench.owner(0), 2);
        CHECK.same("1 has LOCK 1", bench.owner(1), 1);
        ticks("1 before 3 before 2 before 0", bench, 1, 1, 1, 3, 2, 0);
    }

    private static void lockGoesToTheLesserNumberOfLikeOnes() {
        DeadlineBench bench = new DeadlineBench(4, 1, 9, 5, 200);
        bench.addTask(100, 1, 100);
        bench.addTask(100, 1, 100);
        bench.addTask(100, 3, 100);
        bench.addSection(2, 0, 0, 3);
        bench.removeTask(0);
        bench.removeTask(1);
        ticks("2 holds the LOCK", bench, 2);
        bench.addTask(100, 2, 50);
        bench.addTask(100, 2, 50);
        bench.removeTask(0);
        bench.addSection(1, 0, 0, 1);
        ticks("1 waits", bench, 2);
        CHECK.same("2 inherits of 1", bench.effective(2), 51);
        bench.addTask(100, 2, 49);
        bench.addSection(0, 0, 0, 1);
        ticks("0, alike, waits by its lesser number; 2 lets go", bench, 2);
        CHECK.same("deadlineOf(0) as that of 1", bench.deadlineOf(0), bench.deadlineOf(1));
        CHECK.same("0 has the LOCK", bench.owner(0), 0);
        CHECK.same("1 waits on", bench.waitsFor(1), 0);
    }

    private static DeadlineBench ring() {
        DeadlineBench bench = new DeadlineBench(3, 2, 9, 5, 100);
        bench.addTask(80, 4, 40);
        bench.addSection(0, 0, 0, 4);
        bench.addSection(0, 1, 1, 2);
        ticks("0 holds LOCK 0", bench, 0);
        bench.addTask(60, 4, 20);
        bench.addSection(1, 0, 1, 4);
        bench.addSection(1, 1, 0, 2);
        ticks("1 holds LOCK 1", bench, 1);
        ticks("both wait", bench, -1);
        return bench;
    }

    private static void ringOfWaitingEndsWithAMiss() {
        DeadlineBench bench = ring();
        CHECK.same("waitsFor(0)", bench.waitsFor(0), 1);
        CHECK.same("waitsFor(1)", bench.waitsFor(1), 0);
        CHECK.same("effective(0) in the ring", bench.effective(0), 21);
        CHECK.same("effective(1) in the ring", bench.effective(1), 21);
        bench.addTask(80, 1, 10);
        ticks("a third one runs", bench, 2, -1);
        CHECK.same("run(100) up to the MISS", bench.run(100), 17);
        CHECK.same("the MISS", bench.miss(0, 0), 1);
        CHECK.same("its time", bench.miss(0, 1), 21);
        CHECK.same("0 went on in the same tick", bench.ran(0), 0);
        CHECK.same("0 holds LOCK 1", bench.owner(1), 0);
        CHECK.same("0 holds LOCK 0", bench.owner(0), 0);
        CHECK.same("effective(0) behind it", bench.effective(0), 40);
        CHECK.same("ticks 0 WAITED", bench.task(0, 8), 19);
        CHECK.same("ticks 1 WAITED", bench.task(1, 8), 19);
        CHECK.same("ticks in which none ran", bench.count(5), 18);
        ticks("0 to its end", bench, 0, 0, -1);
    }

    private static void missesOfOneLock() {
        DeadlineBench bench = new DeadlineBench(3, 1, 9, 5, 100);
        bench.addTask(50, 8, 8);
        bench.addSection(0, 1, 0, 7);
        ticks("0 runs", bench, 0);
        bench.addTask(50, 2, 6);
        ticks("1 is DUE first", bench, 1, 1, 0);
        bench.addTask(50, 2, 3);
        bench.addSection(2, 0, 0, 2);
        ticks("2 waits for 0", bench, 0, 0, 0);
        CHECK.same("waitsFor(2)", bench.waitsFor(2), 0);
        CHECK.same("2 is a MISS first", bench.tick(), 0);
        CHECK.same("that of 2", bench.miss(0, 0), 2);
        CHECK.same("its time", bench.miss(0, 1), 7);
        CHECK.same("waiters(0)", bench.waiters(0), 0);
        CHECK.same("0 is a MISS then", bench.tick(), -1);
        CHECK.same("that of 0", bench.miss(1, 0), 0);
        CHECK.same("LOCKS held", bench.count(4), 0);
        CHECK.same("PENDING JOBS", bench.count(2), 0);
    }

    /** 0 and 1 are DUE at once: 0 gives the LOCK on to 1, which gives it on to 2 in the same tick. */
    private static void missesOfOneTickGiveALockOn() {
        DeadlineBench bench = new DeadlineBench(4, 1, 9, 5, 200);
        addWithNumber(bench, 3, 4, 100);
        bench.addSection(3, 0, 0, 4);
        ticks("3 holds the LOCK", bench, 3);
        addWithNumber(bench, 2, 1, 60);
        bench.addSection(2, 0, 0, 1);
        ticks("2 waits", bench, 3);
        addWithNumber(bench, 1, 18, 18);
        bench.addSection(1, 0, 0, 18);
        ticks("1 waits", bench, 3);
        addWithNumber(bench, 0, 17, 17);
        bench.addSection(0, 0, 0, 17);
        ticks("0 waits, 3 lets go", bench, 3);
        CHECK.same("0 has it", bench.owner(0), 0);
        CHECK.same("two wait", bench.waiters(0), 2);
        CHECK.same("run(50) up to the MISSES", bench.run(50), 17);
        CHECK.same("missCount()", bench.missCount(), 2);
        CHECK.same("first MISS", bench.miss(0, 0), 0);
        CHECK.same("second MISS", bench.miss(1, 0), 1);
        CHECK.same("its time", bench.miss(1, 1), 20);
        CHECK.same("2 had the LOCK and ran", bench.ran(0), 2);
        CHECK.same("LOCKS held", bench.count(4), 0);
    }

    /** Fills the numbers below with TASKS that are gone before their first tick. */
    private static void addWithNumber(DeadlineBench bench, int number, int work, int deadline) {
        for (int below = 0; below < number; below++) {
            bench.addTask(100, 1, 100);
        }
        CHECK.same("the number of a TASK", bench.addTask(100, work, deadline), number);
        for (int below = 0; below < number; below++) {
            bench.removeTask(below);
        }
    }
}
