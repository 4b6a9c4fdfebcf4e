/** The boundary cases of promise 17, and those of what is counted of a TASK. */
public final class Boundary17TaskTest {
    private static final Check CHECK = new Check("Boundary17TaskTest");

    public static void main(String[] args) {
        anotherWhat();
        noneSuch();
        theLeastAndTheGreatestTask();
        sectionsFromNoneToAll();
        releasedAtTheEdges();
        greatestAnswer();
        ticksWaited();
        putByInTheTickBehindAlone();
        putByOnlyIfAnotherOneRan();
        changesNothing();
        CHECK.end();
    }

    private static void figures(String story, DeadlineBench bench, int task, int... due) {
        for (int what = 0; what < due.length; what++) {
            CHECK.same(story + ": task(" + task + ", " + what + ")", bench.task(task, what), due[what]);
        }
    }

    private static void noTask(String story, DeadlineBench bench, int task) {
        for (int what = 0; what <= 10; what++) {
            CHECK.same(story + ": task(" + task + ", " + what + ")", bench.task(task, what), -1);
        }
        for (int what : Ints.outside(0, 10)) {
            CHECK.same(story + ": task(" + task + ", " + what + ")", bench.task(task, what), -1);
        }
    }

    /** "NONE for another what". */
    private static void anotherWhat() {
        for (Story story : Story.values()) {
            DeadlineBench bench = story.tell();
            for (int task = 0; task < Story.TASKS; task++) {
                for (int what : Ints.outside(0, 10)) {
                    CHECK.same(story + ": task(" + task + ", " + what + ")", bench.task(task, what), -1);
                }
            }
        }
        DeadlineBench bench = Story.WAITING.tell();
        figures("WAITING", bench, 0, 50, 10, 50, 50, 1, 1, 0, 0, 0, 1, 0);
        figures("WAITING", bench, 1, 50, 6, 40, 51, 2, 1, 0, 0, 1, 0, 0);
        figures("WAITING", bench, 2, 20, 1, 10, 21, 0, 1, 1, 0, 0, 0, 1);
    }

    /** "or if there is none such". */
    private static void noneSuch() {
        for (Story story : Story.values()) {
            for (int task : Ints.outside(0, Story.TASKS - 1)) {
                noTask(story.toString(), story.tell(), task);
            }
        }
        for (int task = 0; task < Story.TASKS; task++) {
            noTask("NEW", Story.NEW.tell(), task);
        }
        noTask("WAITING", Story.WAITING.tell(), 3);
        for (int task = 0; task < 3; task++) {
            DeadlineBench bench = Story.WAITING.tell();
            bench.removeTask(task);
            noTask("WAITING, removed", bench, task);
        }
    }

    private static void theLeastAndTheGreatestTask() {
        DeadlineBench bench = new DeadlineBench(40, 0, 0, 0, 20000);
        bench.addTask(1, 1, 1);
        for (int number = 1; number < 40; number++) {
            bench.addTask(20000, 20000, 20000);
        }
        figures("the least", bench, 0, 1, 1, 1, 0, 0, 0, 0, 0, 0, 0, 0);
        figures("the greatest", bench, 39, 20000, 20000, 20000, 0, 0, 0, 0, 0, 0, 0, 0);
        for (int i = 0; i < 10; i++) {
            bench.run(2000);
        }
        figures("the least at LAST", bench, 0, 1, 1, 1, 20000, 0, 20000, 20000, 0, 0, 0, 1);
        figures("the greatest at LAST", bench, 39, 20000, 20000, 20000, 20000, 0, 1, 0, 0, 0, 0, 0);
    }

    private static void sectionsFromNoneToAll() {
        DeadlineBench bench = new DeadlineBench(2, 1, 120, 0, 200);
        bench.addTask(200, 200, 200);
        bench.addTask(200, 200, 200);
        for (int begin = 0; begin <= 120; begin++) {
            CHECK.same("SECTIONS of 1", bench.task(1, 4), begin);
            bench.addSection(1, begin, 0, 1);
        }
        CHECK.same("SECTIONS of 1, refused beyond", bench.task(1, 4), 120);
        CHECK.same("SECTIONS of 0", bench.task(0, 4), 0);
    }

    /** What 3 and 5: before the tick at a RELEASE and behind it; a RELEASE at LAST does not come. */
    private static void releasedAtTheEdges() {
        DeadlineBench bench = new DeadlineBench(1, 0, 0, 0, 10);
        bench.addTask(5, 1, 5);
        int[] next = {0, 5, 5, 5, 5, 5, 10, 10, 10, 10, 10};
        int[] released = {0, 1, 1, 1, 1, 1, 2, 2, 2, 2, 2};
        for (int now = 0; now <= 10; now++) {
            CHECK.same("task(0, 3) at " + now, bench.task(0, 3), next[now]);
            CHECK.same("task(0, 5) at " + now, bench.task(0, 5), released[now]);
            bench.tick();
        }
        CHECK.same("task(0, 3) at LAST", bench.task(0, 3), 10);
        CHECK.same("task(0, 5) at LAST", bench.task(0, 5), 2);
    }

    /** "the greatest ANSWER (0 without)": of a JOB that is done, from its WORK up to its DEADLINE. */
    private static void greatestAnswer() {
        DeadlineBench bench = new DeadlineBench(3, 0, 0, 5, 100);
        bench.addTask(20, 2, 6);
        CHECK.same("without a JOB", bench.task(0, 10), 0);
        bench.tick();
        CHECK.same("not yet done", bench.task(0, 10), 0);
        bench.tick();
        CHECK.same("as much as the WORK", bench.task(0, 10), 2);
        bench.run(18);
        bench.addTask(20, 4, 5);
        bench.run(6);
        CHECK.same("as much as the DEADLINE", bench.task(0, 10), 6);
        bench.run(14);
        bench.addTask(100, 1, 1);
        bench.run(7);
        CHECK.same("MISSED", bench.task(0, 7), 1);
        CHECK.same("MISSED: no ANSWER", bench.task(0, 10), 6);
        bench.removeTask(1);
        bench.run(20);
        CHECK.same("a lesser one", bench.task(0, 10), 6);
        CHECK.same("JOBS done", bench.task(0, 6), 3);
    }

    /** "was PENDING, and waiting behind (3)": from its first tick of waiting to the last before it is given the LOCK. */
    private static void ticksWaited() {
        DeadlineBench bench = new DeadlineBench(2, 1, 5, 5, 60);
        bench.addTask(60, 4, 60);
        bench.addSection(0, 0, 0, 4);
        bench.tick();
        bench.addTask(60, 1, 20);
        bench.addSection(1, 0, 0, 1);
        int[] due = {0, 1, 2, 2, 2};
        for (int i = 0; i < due.length; i++) {
            CHECK.same("task(1, 8) behind " + i + " ticks", bench.task(1, 8), due[i]);
            CHECK.same("task(0, 8) behind " + i + " ticks", bench.task(0, 8), 0);
            bench.tick();
        }
    }

    /** "PUT BY: it ran in the tick before": once, however long the other ones run. */
    private static void putByInTheTickBehindAlone() {
        DeadlineBench bench = new DeadlineBench(2, 0, 0, 5, 60);
        bench.addTask(60, 4, 60);
        bench.run(2);
        bench.addTask(10, 3, 10);
        int[] due = {0, 1, 1, 1, 1, 1};
        for (int i = 0; i < due.length; i++) {
            CHECK.same("task(0, 9) behind " + i + " ticks", bench.task(0, 9), due[i]);
            CHECK.same("task(1, 9) behind " + i + " ticks", bench.task(1, 9), 0);
            bench.tick();
        }
    }

    /** "was not done, is READY behind (3), and another one ran". */
    private static void putByOnlyIfAnotherOneRan() {
        DeadlineBench done = new DeadlineBench(2, 0, 0, 5, 60);
        done.addTask(60, 1, 10);
        done.addTask(60, 1, 20);
        done.run(2);
        CHECK.same("done: task(0, 9)", done.task(0, 9), 0);
        DeadlineBench on = new DeadlineBench(2, 0, 0, 5, 60);
        on.addTask(60, 2, 10);
        on.addTask(60, 1, 20);
        on.run(2);
        CHECK.same("it runs on: task(0, 9)", on.task(0, 9), 0);
        CHECK.same("it never ran: task(1, 9)", on.task(1, 9), 0);
        DeadlineBench ring = Story.RING.tell();
        CHECK.same("it waits, none runs: task(1, 9)", ring.task(1, 9), 0);
        CHECK.same("it waits, none runs: task(1, 8)", ring.task(1, 8), 1);
        CHECK.same("1 ran behind 0: task(0, 9)", ring.task(0, 9), 1);
    }

    private static void changesNothing() {
        int[] values = {Integer.MIN_VALUE, -1, 0, 3, 4, Integer.MAX_VALUE};
        int[] whats = {Integer.MIN_VALUE, -1, 0, 10, 11, Integer.MAX_VALUE};
        for (Story story : Story.values()) {
            for (int task : values) {
                for (int what : whats) {
                    int due = story.tell().task(task, what);
                    Refused.check(CHECK, story, "task(" + task + ", " + what + ")", b -> b.task(task, what), due);
                }
            }
        }
    }
}
