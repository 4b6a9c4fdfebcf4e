/** The boundary cases of promise 6, and those of the Terms 1 to 3 that a TICK meets. */
public final class Boundary06TickTest {
    private static final Check CHECK = new Check("Boundary06TickTest");

    public static void main(String[] args) {
        nowIsLast();
        noneIfNoneDid();
        noneIfAllBeginToWait();
        firstAndLastNumberRan();
        dueNow();
        dueAtLast();
        releasedNow();
        periodOfOne();
        dueAndReleasedAtOnce();
        likeDeadlines();
        sectionAtTheEndsOfTheWork();
        refusedChangesNothing();
        CHECK.end();
    }

    private static void ticks(String story, DeadlineBench bench, int... due) {
        for (int i = 0; i < due.length; i++) {
            CHECK.same(story + ", tick " + i, bench.tick(), due[i]);
        }
    }

    /** "-2, and there is none, if NOW is LAST". */
    private static void nowIsLast() {
        for (int last : new int[] {1, 2, 100, 101}) {
            DeadlineBench bench = new DeadlineBench(1, 0, 0, 0, last);
            bench.addTask(1, 1, 1);
            for (int now = 0; now < last; now++) {
                CHECK.same("LAST " + last + ": tick() at " + now, bench.tick(), 0);
            }
            for (int again = 0; again < 3; again++) {
                CHECK.same("LAST " + last + ": tick() at LAST", bench.tick(), -2);
                CHECK.same("LAST " + last + ": NOW", bench.count(0), last);
                CHECK.same("LAST " + last + ": JOBS RELEASED", bench.task(0, 5), last);
                CHECK.same("LAST " + last + ": JOBS done", bench.task(0, 6), last);
                CHECK.same("LAST " + last + ": TICKS in which none ran", bench.count(5), 0);
                CHECK.same("LAST " + last + ": no more TICKS", bench.ran(last), -2);
            }
        }
        DeadlineBench longest = new DeadlineBench(1, 0, 0, 0, 20000);
        for (int i = 0; i < 9; i++) {
            longest.run(2000);
        }
        longest.run(1999);
        CHECK.same("tick() at 19999", longest.tick(), -1);
        CHECK.same("tick() at 20000", longest.tick(), -2);
        CHECK.same("NOW", longest.count(0), 20000);
    }

    /** "NONE if none did": there is no TASK; no JOB is PENDING; all that are PENDING wait. */
    private static void noneIfNoneDid() {
        ticks("no TASK", new DeadlineBench(1, 0, 0, 0, 9), -1, -1);
        DeadlineBench done = new DeadlineBench(1, 0, 0, 0, 9);
        done.addTask(3, 1, 1);
        ticks("no PENDING JOB", done, 0, -1, -1, 0, -1, -1, 0, -1, -1, -2);
        CHECK.same("no PENDING JOB: TICKS in which none ran", done.count(5), 6);
        DeadlineBench ring = Story.RING.tell();
        CHECK.same("all wait: TICKS in which none ran, before", ring.count(5), 1);
        ticks("all wait", ring, -1, -1);
        CHECK.same("all wait: TICKS in which none ran", ring.count(5), 3);
    }

    /** Each holds a LOCK and wants that of the next one: all that there can be begin to wait in one tick. */
    private static void noneIfAllBeginToWait() {
        for (int all = 2; all <= 16; all++) {
            DeadlineBench bench = new DeadlineBench(all, all, 2 * all, 5, 100);
            for (int task = 0; task < all; task++) {
                bench.addTask(100, 2, 90 - 2 * task);
                bench.addSection(task, 0, task, 2);
                bench.addSection(task, 1, (task + 1) % all, 1);
                CHECK.same(all + " in a ring: its first unit", bench.tick(), task);
            }
            CHECK.same(all + " in a ring: tick()", bench.tick(), -1);
            CHECK.same(all + " in a ring: TICKS in which none ran", bench.count(5), 1);
            CHECK.same(all + " in a ring: ran(0)", bench.ran(0), -1);
            for (int task = 0; task < all; task++) {
                CHECK.same(all + " in a ring: waitsFor(" + task + ")", bench.waitsFor(task), (task + 1) % all);
                CHECK.same(all + " in a ring: effective(" + task + ")", bench.effective(task), bench.deadlineOf(all - 1));
            }
            CHECK.same(all + " in a ring: up to the MISS", bench.run(100), 91 - 2 * all);
            CHECK.same(all + " in a ring: the MISS", bench.miss(0, 0), all - 1);
            CHECK.same(all + " in a ring: its time", bench.miss(0, 1), 91 - all);
            CHECK.same(all + " in a ring: who waited for it ran", bench.ran(0), all - 2);
        }
    }

    private static void firstAndLastNumberRan() {
        DeadlineBench bench = new DeadlineBench(40, 0, 0, 0, 60);
        for (int number = 0; number < 40; number++) {
            bench.addTask(60, 1, 60);
        }
        for (int number = 0; number < 40; number++) {
            CHECK.same("of 40", bench.tick(), number);
        }
        CHECK.same("all are done", bench.tick(), -1);
    }

    /** (1) "Each PENDING JOB that is DUE NOW": with its last unit in the tick before that it is done, with one more not. */
    private static void dueNow() {
        for (int work = 1; work <= 3; work++) {
            DeadlineBench bench = new DeadlineBench(2, 0, 0, 5, 60);
            bench.addTask(50, 3, 5);
            bench.addTask(50, work, 5);
            bench.run(5);
            int left = work == 3 ? 1 : 0;
            CHECK.same("WORK " + work + ": remaining(1) at 5", bench.remaining(1), left);
            CHECK.same("WORK " + work + ": missCount() at 5", bench.missCount(), 0);
            CHECK.same("WORK " + work + ": tick() at 5", bench.tick(), -1);
            CHECK.same("WORK " + work + ": missCount() behind 5", bench.missCount(), left);
            CHECK.same("WORK " + work + ": time of the MISS", bench.miss(0, 1), left == 1 ? 5 : -1);
            CHECK.same("WORK " + work + ": JOBS done", bench.task(1, 6), 1 - left);
            CHECK.same("WORK " + work + ": remaining(1) behind 5", bench.remaining(1), 0);
            CHECK.same("WORK " + work + ": the greatest ANSWER", bench.task(1, 10), left == 1 ? 0 : 3 + work);
        }
    }

    /** The tick at LAST less 1 is the last one: what is DUE then is MISSED, what is DUE at LAST is not. */
    private static void dueAtLast() {
        for (int deadline = 8; deadline <= 9; deadline++) {
            DeadlineBench bench = new DeadlineBench(2, 0, 0, 5, 9);
            bench.addTask(9, 8, 8);
            bench.addTask(9, 2, deadline);
            bench.run(2000);
            bench.run(2000);
            CHECK.same("DEADLINE " + deadline + ": NOW", bench.count(0), 9);
            CHECK.same("DEADLINE " + deadline + ": missCount()", bench.missCount(), deadline == 8 ? 1 : 0);
            CHECK.same("DEADLINE " + deadline + ": remaining(1)", bench.remaining(1), deadline == 8 ? 0 : 1);
        }
    }

    /** (2) "whose next JOB is RELEASED NOW": a PERIOD behind the one before, neither a tick sooner nor later. */
    private static void releasedNow() {
        DeadlineBench bench = new DeadlineBench(1, 0, 0, 0, 60);
        bench.run(3);
        bench.addTask(4, 1, 2);
        ticks("from 3 on each fourth", bench, 0, -1, -1, -1, 0, -1, -1, -1, 0);
        CHECK.same("JOBS RELEASED", bench.task(0, 5), 3);
        CHECK.same("the next RELEASE", bench.task(0, 3), 15);
    }

    private static void periodOfOne() {
        DeadlineBench bench = new DeadlineBench(2, 1, 1, 5, 60);
        bench.addTask(1, 1, 1);
        bench.addSection(0, 0, 0, 1);
        ticks("PERIOD 1", bench, 0, 0, 0);
        CHECK.same("JOBS done", bench.task(0, 6), 3);
        CHECK.same("the greatest ANSWER", bench.task(0, 10), 1);
        CHECK.same("the LOCK is FREE between", bench.owner(0), -1);
        bench.addTask(1, 1, 1);
        ticks("two with PERIOD 1", bench, 0, 0, 0);
        CHECK.same("MISSED of 1", bench.task(1, 7), 2);
        CHECK.same("RELEASED of 1", bench.task(1, 5), 3);
        CHECK.same("PENDING JOBS", bench.count(2), 1);
    }

    /** A DEADLINE of the PERIOD: the JOB before is dropped, and what it held let go, before the next one comes. */
    private static void dueAndReleasedAtOnce() {
        DeadlineBench bench = new DeadlineBench(2, 1, 2, 5, 60);
        bench.addTask(3, 2, 2);
        bench.addTask(4, 3, 4);
        bench.addSection(1, 0, 0, 3);
        ticks("up to 4", bench, 0, 0, 1, 1);
        CHECK.same("owner(0) at 4", bench.owner(0), 1);
        CHECK.same("remaining(1) at 4", bench.remaining(1), 1);
        ticks("at 4", bench, 0);
        CHECK.same("owner(0) behind 4", bench.owner(0), -1);
        CHECK.same("remaining(1) behind 4", bench.remaining(1), 3);
        CHECK.same("deadlineOf(1) behind 4", bench.deadlineOf(1), 8);
        CHECK.same("PENDING JOBS behind 4", bench.count(2), 2);
        CHECK.same("MISSED of 1", bench.task(1, 7), 1);
    }

    /** "AHEAD ... by a lesser EFFECTIVE deadline, of like ones by the lesser number": one less, like, one more. */
    private static void likeDeadlines() {
        for (int deadline = 29; deadline <= 31; deadline++) {
            DeadlineBench bench = new DeadlineBench(2, 0, 0, 0, 60);
            bench.addTask(50, 1, 30);
            bench.addTask(50, 1, deadline);
            int first = deadline < 30 ? 1 : 0;
            ticks("30 and " + deadline, bench, first, 1 - first, -1);
        }
    }

    /** A SECTION of the first unit, of the last one, of all: held from the tick of its first unit to that of its last. */
    private static void sectionAtTheEndsOfTheWork() {
        int[][] sections = {{0, 1}, {2, 1}, {0, 3}, {1, 2}, {0, 2}};
        for (int[] s : sections) {
            DeadlineBench bench = new DeadlineBench(1, 1, 1, 0, 60);
            bench.addTask(50, 3, 50);
            bench.addSection(0, s[0], 0, s[1]);
            for (int unit = 0; unit < 4; unit++) {
                bench.tick();
                boolean within = s[0] <= unit && unit + 1 < s[0] + s[1];
                String story = "SECTION of " + s[1] + " from " + s[0] + ", behind unit " + unit;
                CHECK.same(story, bench.owner(0), within ? 0 : -1);
                CHECK.same(story + ": LOCKS held", bench.count(4), within ? 1 : 0);
            }
        }
    }

    /** "What is refused changes nothing." */
    private static void refusedChangesNothing() {
        Refused.check(CHECK, Story.AT_LAST, "tick()", bench -> bench.tick(), -2);
        Refused.check(CHECK, Story.AT_LAST, "tick() again and again", bench -> {
            for (int i = 0; i < 50; i++) {
                bench.tick();
            }
            return bench.tick();
        }, -2);
    }
}
