/** Promise 18: count. */
public final class Promise18CountTest {
    private static final Check CHECK = new Check("Promise18CountTest");

    public static void main(String[] args) {
        wrongInputs();
        countsAll();
        CHECK.end();
    }

    private static void counts(String story, DeadlineBench bench, int... due) {
        for (int what = 0; what < due.length; what++) {
            CHECK.same(story + ": count(" + what + ")", bench.count(what), due[what]);
        }
    }

    private static void wrongInputs() {
        DeadlineBench bench = new DeadlineBench(2, 1, 5, 5, 100);
        int[] wrong = {-1, 7, Integer.MAX_VALUE, Integer.MIN_VALUE};
        for (int what : wrong) {
            CHECK.same("count(" + what + ")", bench.count(what), -1);
        }
    }

    private static void countsAll() {
        DeadlineBench bench = new DeadlineBench(3, 3, 9, 5, 90);
        counts("new", bench, 0, 0, 0, 0, 0, 0, 90);
        bench.run(2);
        counts("idle", bench, 2, 0, 0, 0, 0, 2, 90);
        bench.addTask(50, 4, 40);
        bench.addTask(50, 2, 20);
        bench.addSection(0, 0, 0, 4);
        bench.addSection(0, 0, 2, 4);
        bench.addSection(1, 0, 1, 2);
        counts("not yet RELEASED", bench, 2, 2, 0, 3, 0, 2, 90);
        bench.tick();
        counts("1 runs", bench, 3, 2, 2, 3, 1, 2, 90);
        bench.tick();
        counts("1 is done", bench, 4, 2, 1, 3, 0, 2, 90);
        bench.tick();
        counts("0 runs", bench, 5, 2, 1, 3, 2, 2, 90);
        bench.run(10);
        counts("0 is done", bench, 15, 2, 0, 3, 0, 9, 90);
        bench.removeTask(0);
        counts("0 is removed", bench, 15, 1, 0, 1, 0, 9, 90);
        bench.run(2000);
        counts("at LAST", bench, 90, 1, 0, 1, 0, 82, 90);
    }
}
