/**
 * No call throws or fails to end, in any state and with any arguments, not even behind the 512th call, where the answers
 * are free: they are not looked at.
 */
public final class NeverThrowsTest {
    private static final Check CHECK = new Check("NeverThrowsTest");
    private static final int RUNS = 60;
    private static final int CALLS = 3000;
    private static final int[] WILD = {Integer.MIN_VALUE, Integer.MIN_VALUE + 1, -2, -1, 0, 1, 15, 16, 17, 39, 40, 41, 99, 100,
        101, 119, 120, 121, 1999, 2000, 2001, 19999, 20000, 20001, Integer.MAX_VALUE - 1, Integer.MAX_VALUE};

    private final Dice dice;
    private final DeadlineBench bench;

    private NeverThrowsTest(int run) {
        dice = new Dice(run);
        bench = new DeadlineBench(size(), size(), size(), size(), size());
    }

    public static void main(String[] args) {
        for (int run = 0; run < RUNS; run++) {
            CHECK.isTrue("run " + run, new NeverThrowsTest(run).callsEnd());
        }
        CHECK.end();
    }

    private boolean callsEnd() {
        for (int call = 0; call < CALLS; call++) {
            try {
                callAny();
            } catch (RuntimeException thrown) {
                System.out.println("call " + call + " threw " + thrown);
                return false;
            }
        }
        return true;
    }

    /** Mostly large, so that there is room for something to happen. */
    private int size() {
        return dice.oneIn(3) ? wild() : dice.from(10, 30000);
    }

    private int wild() {
        return WILD[dice.from(0, WILD.length - 1)];
    }

    private int any(int most) {
        return dice.oneIn(4) ? wild() : dice.from(0, most);
    }

    private void callAny() {
        switch (dice.from(1, 20)) {
            case 1 -> bench.removeTask(any(40));
            case 2 -> bench.admissible();
            case 3 -> bench.run(any(20));
            case 4 -> bench.ran(any(101));
            case 5 -> bench.remaining(any(40));
            case 6 -> bench.deadlineOf(any(40));
            case 7 -> bench.effective(any(40));
            case 8 -> bench.waitsFor(any(40));
            case 9 -> bench.owner(any(17));
            case 10 -> bench.waiters(any(17));
            case 11 -> bench.missCount();
            case 12 -> bench.miss(any(101), any(2));
            case 13 -> bench.task(any(40), any(11));
            case 14 -> bench.count(any(7));
            case 15, 16 -> addTaskWithSections();
            default -> bench.tick();
        }
    }

    private void addTaskWithSections() {
        int task = bench.addTask(any(400), any(20), any(300));
        bench.addSection(task, any(4), any(17), any(20));
        bench.addSection(task, any(4), any(17), any(20));
        bench.addSection(any(40), any(4), any(17), any(20));
    }
}
