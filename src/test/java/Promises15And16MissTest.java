/** Promises 15 and 16: missCount and miss. */
public final class Promises15And16MissTest {
    private static final Check CHECK = new Check("Promises15And16MissTest");

    public static void main(String[] args) {
        keepsTheFirstOnes();
        keepsNone();
        wrongInputs();
        CHECK.end();
    }

    private static DeadlineBench tooMuch(int log) {
        DeadlineBench bench = new DeadlineBench(3, 0, 0, log, 100);
        bench.addTask(4, 4, 4);
        bench.addTask(4, 1, 4);
        bench.addTask(8, 1, 8);
        return bench;
    }

    private static void keepsTheFirstOnes() {
        DeadlineBench bench = tooMuch(3);
        CHECK.same("missCount() at first", bench.missCount(), 0);
        CHECK.same("miss(0, 0) at first", bench.miss(0, 0), -1);
        bench.run(100);
        CHECK.same("missCount() behind the first", bench.missCount(), 1);
        CHECK.same("miss(1, 0) before it is", bench.miss(1, 0), -1);
        bench.run(100);
        bench.run(100);
        CHECK.same("missCount() behind tick 12", bench.missCount(), 4);
        int[][] due = {{1, 4}, {1, 8}, {2, 8}, {-1, -1}, {-1, -1}};
        for (int i = 0; i < due.length; i++) {
            CHECK.same("miss(" + i + ", 0)", bench.miss(i, 0), due[i][0]);
            CHECK.same("miss(" + i + ", 1)", bench.miss(i, 1), due[i][1]);
        }
        bench.removeTask(1);
        CHECK.same("missCount() when the TASK is gone", bench.missCount(), 4);
        CHECK.same("miss(0, 0) when the TASK is gone", bench.miss(0, 0), 1);
    }

    private static void keepsNone() {
        DeadlineBench bench = tooMuch(0);
        bench.run(100);
        CHECK.same("missCount()", bench.missCount(), 1);
        CHECK.same("miss(0, 0)", bench.miss(0, 0), -1);
        CHECK.same("miss(0, 1)", bench.miss(0, 1), -1);
    }

    private static void wrongInputs() {
        DeadlineBench bench = tooMuch(3);
        bench.run(100);
        int[] wrong = {-1, 2, Integer.MAX_VALUE, Integer.MIN_VALUE};
        for (int value : wrong) {
            CHECK.same("miss(0, " + value + ")", bench.miss(0, value), -1);
            CHECK.same("miss(" + value + ", 0)", bench.miss(value, 0), -1);
            CHECK.same("miss(" + value + ", " + value + ")", bench.miss(value, value), -1);
        }
    }
}
