/** The boundary cases of promises 9 to 12: what is answered if there is none, and where a JOB begins and ends. */
public final class Boundaries09To12JobTest {
    private static final Check CHECK = new Check("Boundaries09To12JobTest");

    public static void main(String[] args) {
        noSuchNumber();
        numberThatStandsForNone();
        liveWithoutAJob();
        fromReleaseToDone();
        droppedWhenDue();
        leftFromAllToOne();
        dueBehindLast();
        effectiveOfLikeAndLaterOnes();
        effectiveOfTheLongestChain();
        firstAndLastLock();
        changesNothing();
        CHECK.end();
    }

    /** What remaining, deadlineOf, effective and waitsFor answer. */
    private static void job(String story, DeadlineBench bench, int task, int... due) {
        CHECK.same(story + ": remaining(" + task + ")", bench.remaining(task), due[0]);
        CHECK.same(story + ": deadlineOf(" + task + ")", bench.deadlineOf(task), due[1]);
        CHECK.same(story + ": effective(" + task + ")", bench.effective(task), due[2]);
        CHECK.same(story + ": waitsFor(" + task + ")", bench.waitsFor(task), due[3]);
    }

    private static void noJob(String story, DeadlineBench bench, int task) {
        job(story, bench, task, 0, -1, -1, -1);
    }

    /** "0 if there is none", "NONE if there is none", "NONE if for none, or there is none": no such number. */
    private static void noSuchNumber() {
        for (Story story : Story.values()) {
            for (int task : Ints.outside(0, Story.TASKS - 1)) {
                noJob(story.toString(), story.tell(), task);
            }
        }
        DeadlineBench most = new DeadlineBench(40, 0, 0, 0, 60);
        for (int number = 0; number < 40; number++) {
            most.addTask(50, 2, 50);
        }
        most.tick();
        job("the first of 40", most, 0, 1, 50, 50, -1);
        job("the last of 40", most, 39, 2, 50, 50, -1);
        for (int task : Ints.outside(0, 39)) {
            noJob("of 40", most, task);
        }
    }

    private static void numberThatStandsForNone() {
        noJob("never", Story.WAITING.tell(), 3);
        for (int task = 0; task < 3; task++) {
            DeadlineBench bench = Story.WAITING.tell();
            bench.removeTask(task);
            noJob("removed", bench, task);
            bench.addTask(20, 2, 20);
            noJob("another one, not yet RELEASED", bench, task);
        }
    }

    private static void liveWithoutAJob() {
        for (int task = 0; task < Story.TASKS; task++) {
            noJob("FULL, not yet RELEASED", Story.FULL.tell(), task);
        }
        noJob("done", Story.WAITING.tell(), 2);
        noJob("done, at LAST", Story.AT_LAST.tell(), 2);
        DeadlineBench atLast = Story.AT_LAST.tell();
        int added = atLast.addTask(10, 2, 10);
        atLast.tick();
        noJob("came at LAST", atLast, added);
    }

    /** "PENDING from its RELEASE on till it is done": asked at the RELEASE, before the tick, there is none yet. */
    private static void fromReleaseToDone() {
        DeadlineBench bench = new DeadlineBench(1, 0, 0, 0, 60);
        bench.addTask(5, 2, 4);
        noJob("at 0", bench, 0);
        bench.tick();
        job("at 1", bench, 0, 1, 4, 4, -1);
        bench.tick();
        noJob("at 2", bench, 0);
        bench.run(3);
        noJob("at 5", bench, 0);
        bench.tick();
        job("at 6", bench, 0, 1, 9, 9, -1);
    }

    /** "till it is ... dropped": asked when it is DUE, before the tick, it is there still. */
    private static void droppedWhenDue() {
        DeadlineBench bench = new DeadlineBench(2, 0, 0, 5, 60);
        bench.addTask(9, 4, 4);
        bench.addTask(9, 2, 5);
        bench.run(4);
        job("at 4", bench, 1, 2, 5, 5, -1);
        bench.tick();
        job("at 5", bench, 1, 1, 5, 5, -1);
        bench.tick();
        noJob("at 6", bench, 1);
    }

    /** LEFT: all of the WORK when it has not run, 1 before its last unit. */
    private static void leftFromAllToOne() {
        DeadlineBench bench = new DeadlineBench(2, 0, 0, 0, 20000);
        bench.addTask(10, 1, 1);
        bench.addTask(20000, 3, 20000);
        int[] due = {3, 2, 1, 0, 0};
        for (int now = 0; now < due.length; now++) {
            bench.tick();
            CHECK.same("remaining(1) behind tick " + now, bench.remaining(1), due[now]);
        }
        DeadlineBench longest = new DeadlineBench(2, 0, 0, 0, 20000);
        longest.addTask(1, 1, 1);
        longest.addTask(20000, 20000, 20000);
        longest.tick();
        CHECK.same("remaining(1) of the longest WORK", longest.remaining(1), 20000);
    }

    private static void dueBehindLast() {
        DeadlineBench bench = new DeadlineBench(1, 0, 0, 0, 20000);
        for (int i = 0; i < 10; i++) {
            bench.run(i < 9 ? 2000 : 1999);
        }
        bench.addTask(20000, 20000, 20000);
        bench.tick();
        job("at LAST", bench, 0, 19999, 39999, 39999, -1);
    }

    /** "The least time at which it, or any JOB is DUE that WAITS": a waiting one that is DUE sooner, at once, later. */
    private static void effectiveOfLikeAndLaterOnes() {
        for (int due = 29; due <= 31; due++) {
            DeadlineBench bench = new DeadlineBench(3, 2, 5, 5, 60);
            bench.addTask(60, 1, 60);
            bench.addTask(60, 9, 30);
            bench.addSection(1, 0, 0, 9);
            bench.removeTask(0);
            bench.tick();
            bench.addTask(60, 2, due - 1);
            bench.addSection(0, 0, 0, 1);
            CHECK.same("DUE " + due + ": tick()", bench.tick(), 1);
            job("DUE " + due + ", the one", bench, 0, 2, due, due, due == 31 ? -1 : 0);
            job("DUE " + due + ", the holder", bench, 1, 7, 30, Math.min(due, 30), -1);
        }
    }

    /** "and so on": 17 JOBS, each but the first waits for one of the 16 LOCKS, that the one before it holds. */
    private static void effectiveOfTheLongestChain() {
        DeadlineBench bench = new DeadlineBench(40, 16, 120, 5, 1000);
        for (int task = 0; task < 17; task++) {
            bench.addTask(1000, 50, 900 - 20 * task);
            if (task < 16) {
                CHECK.isTrue("SECTION of " + task, bench.addSection(task, 0, task, 50));
            }
            if (task > 0) {
                CHECK.isTrue("inner SECTION of " + task, bench.addSection(task, 1, task - 1, 1));
            }
            bench.run(2);
        }
        int least = bench.deadlineOf(16);
        CHECK.same("deadlineOf(16)", least, 612);
        CHECK.same("deadlineOf(0)", bench.deadlineOf(0), 900);
        for (int task = 0; task < 17; task++) {
            CHECK.same("effective(" + task + ")", bench.effective(task), least);
            CHECK.same("waitsFor(" + task + ")", bench.waitsFor(task), task - 1);
        }
    }

    /** "For which LOCK it WAITS; NONE if for none": 1 wants in its second unit a LOCK that 0 holds; LOCK 0 is a LOCK. */
    private static void firstAndLastLock() {
        for (int lock : new int[] {0, 1, 14, 15}) {
            DeadlineBench bench = new DeadlineBench(2, 16, 5, 5, 60);
            bench.addTask(60, 3, 60);
            bench.addSection(0, 0, lock, 3);
            bench.tick();
            bench.addTask(50, 2, 20);
            bench.addSection(1, 1, lock, 1);
            int[] due = {-1, lock, -1, -1};
            for (int i = 0; i < due.length; i++) {
                bench.tick();
                CHECK.same("LOCK " + lock + ": waitsFor(1) behind tick " + (i + 1), bench.waitsFor(1), due[i]);
                CHECK.same("LOCK " + lock + ": waitsFor(0) behind tick " + (i + 1), bench.waitsFor(0), -1);
            }
        }
    }

    private static void changesNothing() {
        for (int task = -1; task <= Story.TASKS; task++) {
            int number = task;
            for (Story story : Story.values()) {
                DeadlineBench bench = story.tell();
                String of = "(" + task + ")";
                Refused.check(CHECK, story, "remaining" + of, b -> b.remaining(number), bench.remaining(task));
                Refused.check(CHECK, story, "deadlineOf" + of, b -> b.deadlineOf(number), bench.deadlineOf(task));
                Refused.check(CHECK, story, "effective" + of, b -> b.effective(number), bench.effective(task));
                Refused.check(CHECK, story, "waitsFor" + of, b -> b.waitsFor(number), bench.waitsFor(task));
            }
        }
    }
}
