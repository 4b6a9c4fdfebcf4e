/**
 * States of a small object. Each is made anew by the same calls, so that an object to which something more is done can be
 * compared with one to which it is not.
 */
enum Story {
    /** Nothing has been called. */
    NEW,
    /** 0 is READY and holds LOCK 0; 1 holds LOCK 1 and waits for 0; 2 is done; 3 stands for none. */
    WAITING,
    /** 0 and 1 wait for one another; 2 and 3 stand for none. */
    RING,
    /** 0 runs, 1 and 2 are MISSED again and again, more often than the LOG keeps; 3 stands for none. */
    LATE,
    /** There are as many TASKS and SECTIONS as can be; none has a PENDING JOB. */
    FULL,
    /** WAITING, gone on to LAST: 0 and 1 have PENDING JOBS and hold LOCKS. */
    AT_LAST;

    static final int TASKS = 4;
    static final int LOCKS = 3;
    static final int SECTIONS = 6;
    static final int LOG = 2;
    static final int LAST = 60;

    DeadlineBench tell() {
        DeadlineBench bench = new DeadlineBench(TASKS, LOCKS, SECTIONS, LOG, LAST);
        switch (this) {
            case WAITING -> waiting(bench);
            case RING -> ring(bench);
            case LATE -> late(bench);
            case FULL -> full(bench);
            case AT_LAST -> atLast(bench);
            default -> { }
        }
        return bench;
    }

    private static void waiting(DeadlineBench bench) {
        bench.addTask(50, 10, 50);
        bench.addSection(0, 0, 0, 8);
        bench.tick();
        bench.addTask(50, 6, 40);
        bench.addSection(1, 0, 1, 6);
        bench.addSection(1, 1, 0, 2);
        bench.addTask(20, 1, 10);
        bench.run(3);
    }

    private static void ring(DeadlineBench bench) {
        bench.addTask(50, 4, 40);
        bench.addSection(0, 0, 0, 4);
        bench.addSection(0, 1, 1, 2);
        bench.tick();
        bench.addTask(50, 4, 30);
        bench.addSection(1, 0, 1, 4);
        bench.addSection(1, 1, 0, 2);
        bench.run(2);
    }

    private static void late(DeadlineBench bench) {
        bench.addTask(4, 4, 4);
        bench.addTask(4, 2, 4);
        bench.addTask(8, 1, 8);
        bench.run(100);
        bench.run(100);
        bench.run(3);
    }

    private static void full(DeadlineBench bench) {
        bench.run(2);
        for (int task = 0; task < TASKS; task++) {
            bench.addTask(20 + task, 3, 9);
        }
        for (int section = 0; section < SECTIONS; section++) {
            bench.addSection(section % TASKS, section / TASKS, section % LOCKS, 1);
        }
    }

    private static void atLast(DeadlineBench bench) {
        bench.run(52);
        waiting(bench);
        bench.run(100);
    }
}
