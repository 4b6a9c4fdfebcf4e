/** Promise 7: run. */
public final class Promise07RunTest {
    private static final Check CHECK = new Check("Promise07RunTest");

    public static void main(String[] args) {
        refusesOtherNumbers();
        runsUpToTheMost();
        endsAtLast();
        endsBehindAMiss();
        doesWhatTicksDo();
        CHECK.end();
    }

    private static void refusesOtherNumbers() {
        DeadlineBench bench = new DeadlineBench(1, 0, 0, 0, 20000);
        int[] wrong = {-1, 2001, Integer.MAX_VALUE, Integer.MIN_VALUE};
        for (int n : wrong) {
            CHECK.same("run(" + n + ")", bench.run(n), -1);
        }
        CHECK.same("NOW behind refusals", bench.count(0), 0);
        CHECK.same("ran(0) behind refusals", bench.ran(0), -2);
    }

    private static void runsUpToTheMost() {
        DeadlineBench bench = new DeadlineBench(1, 0, 0, 0, 20000);
        CHECK.same("run(0)", bench.run(0), 0);
        CHECK.same("NOW", bench.count(0), 0);
        CHECK.same("run(1)", bench.run(1), 1);
        CHECK.same("NOW", bench.count(0), 1);
        CHECK.same("run(2000)", bench.run(2000), 2000);
        CHECK.same("NOW", bench.count(0), 2001);
    }

    private static void endsAtLast() {
        DeadlineBench bench = new DeadlineBench(1, 0, 0, 0, 30);
        CHECK.same("run(20)", bench.run(20), 20);
        CHECK.same("run(20) to LAST", bench.run(20), 10);
        CHECK.same("NOW", bench.count(0), 30);
        CHECK.same("run(20) at LAST", bench.run(20), 0);
        CHECK.same("run(2001) at LAST", bench.run(2001), -1);
    }

    private static void endsBehindAMiss() {
        DeadlineBench bench = new DeadlineBench(3, 0, 0, 0, 100);
        bench.addTask(5, 5, 5);
        bench.addTask(10, 1, 10);
        bench.addTask(10, 2, 10);
        CHECK.same("run(10) without a MISS", bench.run(10), 10);
        CHECK.same("missCount()", bench.missCount(), 0);
        CHECK.same("run(50) with the MISSES at once", bench.run(50), 1);
        CHECK.same("missCount()", bench.missCount(), 2);
        CHECK.same("NOW", bench.count(0), 11);
        CHECK.same("run(50) up to the next ones", bench.run(50), 10);
        CHECK.same("missCount()", bench.missCount(), 4);
        CHECK.same("run(0)", bench.run(0), 0);
        CHECK.same("run(9)", bench.run(9), 9);
        CHECK.same("missCount()", bench.missCount(), 4);
    }

    private static void doesWhatTicksDo() {
        DeadlineBench byRun = new DeadlineBench(3, 1, 5, 5, 200);
        DeadlineBench byTick = new DeadlineBench(3, 1, 5, 5, 200);
        for (DeadlineBench bench : new DeadlineBench[] {byRun, byTick}) {
            bench.addTask(10, 3, 10);
            bench.addTask(5, 2, 5);
            bench.addTask(20, 4, 12);
            bench.addSection(0, 0, 0, 2);
            bench.addSection(2, 1, 0, 3);
        }
        CHECK.same("run(77)", byRun.run(77), 77);
        for (int i = 0; i < 77; i++) {
            byTick.tick();
        }
        for (int k = 0; k < 77; k++) {
            CHECK.same("ran(" + k + ")", byRun.ran(k), byTick.ran(k));
        }
        for (int task = 0; task < 3; task++) {
            for (int what = 0; what <= 10; what++) {
                CHECK.same("task(" + task + ", " + what + ")", byRun.task(task, what), byTick.task(task, what));
            }
        }
    }
}
