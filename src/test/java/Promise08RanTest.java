/** Promise 8: ran. */
public final class Promise08RanTest {
    private static final Check CHECK = new Check("Promise08RanTest");

    public static void main(String[] args) {
        tellsTheLatestFirst();
        knowsAHundred();
        CHECK.end();
    }

    private static void tellsTheLatestFirst() {
        DeadlineBench bench = new DeadlineBench(2, 0, 0, 0, 500);
        CHECK.same("ran(0) before the first TICK", bench.ran(0), -2);
        bench.addTask(50, 2, 50);
        bench.addTask(50, 1, 40);
        bench.run(4);
        CHECK.same("ran(0): none", bench.ran(0), -1);
        CHECK.same("ran(1)", bench.ran(1), 0);
        CHECK.same("ran(2)", bench.ran(2), 0);
        CHECK.same("ran(3)", bench.ran(3), 1);
        CHECK.same("ran(4): no such TICK", bench.ran(4), -2);
        CHECK.same("ran(-1)", bench.ran(-1), -2);
        CHECK.same("ran(least int)", bench.ran(Integer.MIN_VALUE), -2);
        CHECK.same("ran(greatest int)", bench.ran(Integer.MAX_VALUE), -2);
    }

    private static void knowsAHundred() {
        DeadlineBench bench = new DeadlineBench(1, 0, 0, 0, 500);
        bench.addTask(7, 1, 7);
        bench.run(99);
        CHECK.same("ran(98) of 99: the first TICK", bench.ran(98), 0);
        CHECK.same("ran(99) of 99", bench.ran(99), -2);
        bench.run(1);
        CHECK.same("ran(99) of 100: the first TICK", bench.ran(99), 0);
        CHECK.same("ran(100) of 100", bench.ran(100), -2);
        bench.run(1);
        CHECK.same("ran(99) of 101", bench.ran(99), -1);
        CHECK.same("ran(100) of 101: not known", bench.ran(100), -2);
        bench.run(200);
        for (int k = 0; k < 100; k++) {
            int time = 300 - k;
            CHECK.same("ran(" + k + ") of 301", bench.ran(k), time % 7 == 0 ? 0 : -1);
        }
        CHECK.same("ran(100) of 301: not known", bench.ran(100), -2);
    }
}
