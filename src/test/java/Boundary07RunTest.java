/** The boundary cases of promise 7. */
public final class Boundary07RunTest {
    private static final Check CHECK = new Check("Boundary07RunTest");

    public static void main(String[] args) {
        upToTwoThousand();
        noneForAnotherNumber();
        tillNowIsLast();
        behindTheFirstWithAMiss();
        missInTheLastTickBeforeLast();
        asManyTicksDo();
        refusedChangesNothing();
        CHECK.end();
    }

    /** "Up to n TICKS (0 .. 2000)". */
    private static void upToTwoThousand() {
        for (int n : new int[] {0, 1, 2, 1999, 2000}) {
            DeadlineBench bench = new DeadlineBench(1, 0, 0, 0, 20000);
            CHECK.same("run(" + n + ")", bench.run(n), n);
            CHECK.same("run(" + n + "): NOW", bench.count(0), n);
            CHECK.same("run(" + n + "): TICKS in which none ran", bench.count(5), n);
        }
    }

    /** "NONE for another n". */
    private static void noneForAnotherNumber() {
        for (int n : Ints.outside(0, 2000)) {
            DeadlineBench bench = new DeadlineBench(1, 0, 0, 0, 20000);
            CHECK.same("run(" + n + ")", bench.run(n), -1);
            CHECK.same("run(" + n + "): NOW", bench.count(0), 0);
        }
    }

    /** "till NOW is LAST". */
    private static void tillNowIsLast() {
        for (int left : new int[] {0, 1, 2, 1999, 2000}) {
            for (int n = Math.max(0, left - 1); n <= Math.min(2000, left + 1); n++) {
                DeadlineBench bench = new DeadlineBench(1, 0, 0, 0, 2500);
                bench.run(500);
                bench.run(2000 - left);
                CHECK.same(left + " left: run(" + n + ")", bench.run(n), Math.min(n, left));
                CHECK.same(left + " left: NOW", bench.count(0), 2500 - left + Math.min(n, left));
            }
        }
        DeadlineBench shortest = new DeadlineBench(1, 0, 0, 0, 1);
        CHECK.same("LAST 1: run(0)", shortest.run(0), 0);
        CHECK.same("LAST 1: run(2000)", shortest.run(2000), 1);
        CHECK.same("LAST 1: run(1) at LAST", shortest.run(1), 0);
        CHECK.same("LAST 1: run(0) at LAST", shortest.run(0), 0);
        CHECK.same("LAST 1: run(-1) at LAST", shortest.run(-1), -1);
        CHECK.same("LAST 1: run(2001) at LAST", shortest.run(2001), -1);
    }

    /** 0 takes all, 1 is late at 10: the MISS is in the eleventh tick. */
    private static DeadlineBench missAtTen() {
        DeadlineBench bench = new DeadlineBench(2, 0, 0, 5, 200);
        bench.addTask(10, 10, 10);
        bench.addTask(100, 1, 10);
        return bench;
    }

    /** "or behind the first one with a MISS": that one is counted, and passes whole. */
    private static void behindTheFirstWithAMiss() {
        for (int n : new int[] {9, 10, 11, 12, 2000}) {
            DeadlineBench bench = missAtTen();
            CHECK.same("run(" + n + ")", bench.run(n), Math.min(n, 11));
            CHECK.same("run(" + n + "): missCount()", bench.missCount(), n > 10 ? 1 : 0);
            CHECK.same("run(" + n + "): NOW", bench.count(0), Math.min(n, 11));
            CHECK.same("run(" + n + "): 0 ran", bench.ran(0), 0);
        }
        DeadlineBench bench = missAtTen();
        bench.run(10);
        CHECK.same("run(0) with the MISS next", bench.run(0), 0);
        CHECK.same("run(0): missCount()", bench.missCount(), 0);
        CHECK.same("run(50) with the MISS next", bench.run(50), 1);
        CHECK.same("run(50): missCount()", bench.missCount(), 1);
        CHECK.same("run(50): a MISS of a call before does not end it", bench.run(50), 50);
        CHECK.same("run(0) behind it", bench.run(0), 0);
    }

    /** Without room in the LOG, and with two MISSES in one tick, all is the same. */
    private static void missInTheLastTickBeforeLast() {
        for (int log = 0; log <= 2; log++) {
            DeadlineBench bench = new DeadlineBench(3, 0, 0, log, 11);
            bench.addTask(10, 10, 10);
            bench.addTask(11, 1, 10);
            bench.addTask(11, 1, 10);
            CHECK.same("LOG " + log + ": run(2000)", bench.run(2000), 11);
            CHECK.same("LOG " + log + ": missCount()", bench.missCount(), 2);
            CHECK.same("LOG " + log + ": run(2000) at LAST", bench.run(2000), 0);
        }
        DeadlineBench each = new DeadlineBench(2, 0, 0, 0, 5);
        each.addTask(1, 1, 1);
        each.addTask(1, 1, 1);
        int[] due = {2, 1, 1, 1, 0};
        for (int i = 0; i < due.length; i++) {
            CHECK.same("a MISS in each tick: run(2000), call " + i, each.run(2000), due[i]);
        }
        CHECK.same("a MISS in each tick: missCount()", each.missCount(), 4);
    }

    private static void asManyTicksDo() {
        for (Story story : Story.values()) {
            for (int n : new int[] {0, 1, 5, 60, 61, 2000}) {
                DeadlineBench byTick = story.tell();
                int before = byTick.missCount();
                int due = 0;
                while (due < n && byTick.missCount() == before && byTick.tick() != -2) {
                    due++;
                }
                DeadlineBench byRun = story.tell();
                CHECK.same(story + ": run(" + n + ")", byRun.run(n), due);
                boolean alike = Refused.shown(byRun).equals(Refused.shown(byTick));
                CHECK.isTrue(story + ": run(" + n + ") is as many ticks", alike);
            }
        }
    }

    /** "What is refused changes nothing." */
    private static void refusedChangesNothing() {
        for (int n : Ints.outside(0, 2000)) {
            Refused.checkInAll(CHECK, "run(" + n + ")", bench -> bench.run(n), -1);
        }
        Refused.checkInAll(CHECK, "run(0)", bench -> bench.run(0), 0);
        Refused.check(CHECK, Story.AT_LAST, "run(1)", bench -> bench.run(1), 0);
        Refused.check(CHECK, Story.AT_LAST, "run(2000)", bench -> bench.run(2000), 0);
    }
}
