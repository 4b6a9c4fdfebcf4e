/**
 * All promises: runs of calls, ordinary and wild ones, on the program and on PlainBench, with all answers compared. What
 * an object answers behind its 512th call is free, so a run ends before: some steps, and then a look at all there is.
 */
public final class AgainstPlainBenchTest {
    private static final Check CHECK = new Check("AgainstPlainBenchTest");
    private static final int RUNS = 8000;
    private static final int MOST_CALLS = 512;
    private static final int CALLS_OF_A_LOOK_AT_ALL = 277;
    /** A TASK with its SECTIONS, and a question. */
    private static final int MOST_CALLS_A_STEP = 10;

    private final Dice dice;
    private final String story;
    private final DeadlineBench bench;
    private final PlainBench plain;
    private final int mostWork;
    private final int mostPeriod;
    /** Whether PERIODS and DEADLINES are long, so that JOBS meet at LOCKS before they are late. */
    private final boolean roomy;
    private int calls;

    private static long ringsSeen;
    private static long chainsSeen;
    private static long missesSeen;
    private static long putBysSeen;

    private AgainstPlainBenchTest(int run) {
        dice = new Dice(run);
        roomy = !dice.oneIn(4);
        int tasks = dice.oneIn(20) ? wild() : dice.from(1, 8);
        int locks = dice.oneIn(20) ? wild() : dice.from(0, 4);
        int sections = dice.oneIn(20) ? wild() : dice.from(0, 40);
        int log = dice.oneIn(20) ? wild() : dice.from(0, 10);
        int last = dice.oneIn(40) ? wild() : roomy ? dice.from(100, 900) : dice.from(1, 400);
        story = "run " + run + " (" + tasks + ", " + locks + ", " + sections + ", " + log + ", " + last + ")";
        bench = new DeadlineBench(tasks, locks, sections, log, last);
        plain = new PlainBench(tasks, locks, sections, log, last);
        mostWork = roomy ? dice.from(4, 30) : dice.from(1, 12);
        mostPeriod = roomy ? mostWork * dice.from(4, 10) : dice.from(1, 40);
    }

    public static void main(String[] args) {
        for (int run = 0; run < RUNS && CHECK.allRight(); run++) {
            new AgainstPlainBenchTest(run).compare();
        }
        System.out.println("AgainstPlainBenchTest: rings of waiting " + ringsSeen + ", longer chains " + chainsSeen
            + ", misses " + missesSeen + ", put by " + putBysSeen);
        CHECK.isTrue("rings of waiting were seen", ringsSeen > 0);
        CHECK.isTrue("longer chains of waiting were seen", chainsSeen > 0);
        CHECK.isTrue("misses were seen", missesSeen > 0);
        CHECK.isTrue("jobs that were put by were seen", putBysSeen > 0);
        CHECK.end();
    }

    private void compare() {
        int steps = dice.from(1, 200);
        int mostCalls = MOST_CALLS - CALLS_OF_A_LOOK_AT_ALL - MOST_CALLS_A_STEP;
        for (int step = 0; step < steps && calls <= mostCalls && CHECK.allRight(); step++) {
            step(step);
            ask(story + ", behind step " + step + ": ");
            lookAround();
        }
        compareAll(story + ", at last: ");
        CHECK.isTrue(story + ": calls within " + MOST_CALLS + ": " + calls, calls <= MOST_CALLS);
        missesSeen += plain.missCount();
        for (PlainBench.Task task : plain.live.values()) {
            putBysSeen += task.counted[9];
        }
    }

    private void same(String call, long got, long due) {
        calls++;
        CHECK.same(call, got, due);
    }

    private void lookAround() {
        for (PlainBench.Job job : plain.pending()) {
            PlainBench.Job next = plain.holder(job.waitsFor);
            PlainBench.Job third = next == null ? null : plain.holder(next.waitsFor);
            ringsSeen += third == job ? 1 : 0;
            chainsSeen += third != null && third != job ? 1 : 0;
        }
    }

    private int wild() {
        int[] values = {Integer.MIN_VALUE, -2, -1, 0, 1, 2, 16, 17, 40, 41, 99, 100, 101, 120, 121, 2001, 20001,
            Integer.MAX_VALUE};
        return values[dice.from(0, values.length - 1)];
    }

    private int or(int usual) {
        return dice.oneIn(60) ? wild() : usual;
    }

    private void step(int step) {
        String at = story + ", step " + step + ": ";
        int kind = dice.from(1, 20);
        if (kind <= 4) {
            addTaskWithSections(at);
        } else if (kind <= 5) {
            addSection(at, or(dice.from(0, 8)), mostWork);
        } else if (kind <= 7 && dice.oneIn(2)) {
            int task = or(dice.from(0, 8));
            same(at + "removeTask(" + task + ")",
                bench.removeTask(task) ? 1 : 0, plain.removeTask(task) ? 1 : 0);
        } else if (kind <= 8) {
            int n = or(dice.from(0, 9));
            same(at + "run(" + n + ")", bench.run(n), plain.run(n));
        } else {
            same(at + "tick()", bench.tick(), plain.tick());
        }
    }

    /** The SECTIONS come at once: later, when the JOB is PENDING, they are refused. */
    private void addTaskWithSections(String at) {
        int longest = Math.max(1, Math.min(mostPeriod, plain.last));
        int period = or(dice.from(roomy ? (longest + 1) / 2 : 1, longest));
        int work = or(dice.from(1, Math.max(1, Math.min(mostWork, period))));
        int latest = Math.max(1, Math.min(period, 1000));
        int deadline = or(dice.oneIn(4) ? period : dice.from(roomy ? (latest + 3) / 4 : 1, latest));
        int number = bench.addTask(period, work, deadline);
        same(at + "addTask(" + period + ", " + work + ", " + deadline + ")",
            number, plain.addTask(period, work, deadline));
        int tries = dice.from(0, 8);
        for (int i = 0; number >= 0 && i < tries; i++) {
            addSection(at, number, work);
        }
    }

    private void addSection(String at, int task, int work) {
        int begin = or(dice.from(0, Math.min(work - 1, dice.from(0, 4))));
        int lock = or(dice.from(0, 4));
        int length = or(dice.oneIn(3) ? work - begin : dice.from(1, work));
        same(at + "addSection(" + task + ", " + begin + ", " + lock + ", " + length + ")",
            bench.addSection(task, begin, lock, length) ? 1 : 0, plain.addSection(task, begin, lock, length) ? 1 : 0);
    }

    /** One question: what it asks may not change what the next step does. */
    private void ask(String at) {
        int i = or(dice.from(0, 8));
        int what = or(dice.from(0, 10));
        switch (dice.from(1, 11)) {
            case 1 -> same(at + "remaining(" + i + ")", bench.remaining(i), plain.remaining(i));
            case 2 -> same(at + "deadlineOf(" + i + ")", bench.deadlineOf(i), plain.deadlineOf(i));
            case 3 -> same(at + "effective(" + i + ")", bench.effective(i), plain.effective(i));
            case 4 -> same(at + "waitsFor(" + i + ")", bench.waitsFor(i), plain.waitsFor(i));
            case 5 -> same(at + "owner(" + i + ")", bench.owner(i), plain.owner(i));
            case 6 -> same(at + "waiters(" + i + ")", bench.waiters(i), plain.waiters(i));
            case 7 -> same(at + "admissible()", bench.admissible() ? 1 : 0, plain.admissible() ? 1 : 0);
            case 8 -> same(at + "task(" + i + ", " + what + ")", bench.task(i, what), plain.task(i, what));
            case 9 -> same(at + "count(" + what + ")", bench.count(what), plain.count(what));
            case 10 -> same(at + "miss(" + i + ", " + what + ")", bench.miss(i, what), plain.miss(i, what));
            default -> same(at + "ran(" + i + ")", bench.ran(i), plain.ran(i));
        }
    }

    private void compareAll(String at) {
        int wildOne = wild();
        for (int i = -1; i <= 8; i++) {
            compareTask(at, i);
            compareLockAndLog(at, i);
        }
        compareTask(at, wildOne);
        compareLockAndLog(at, wildOne);
        same(at + "missCount()", bench.missCount(), plain.missCount());
        same(at + "admissible()", bench.admissible() ? 1 : 0, plain.admissible() ? 1 : 0);
    }

    private void compareTask(String at, int task) {
        same(at + "remaining(" + task + ")", bench.remaining(task), plain.remaining(task));
        same(at + "deadlineOf(" + task + ")", bench.deadlineOf(task), plain.deadlineOf(task));
        same(at + "effective(" + task + ")", bench.effective(task), plain.effective(task));
        same(at + "waitsFor(" + task + ")", bench.waitsFor(task), plain.waitsFor(task));
        for (int what = -1; what <= 11; what++) {
            same(at + "task(" + task + ", " + what + ")", bench.task(task, what), plain.task(task, what));
        }
    }

    private void compareLockAndLog(String at, int i) {
        same(at + "owner(" + i + ")", bench.owner(i), plain.owner(i));
        same(at + "waiters(" + i + ")", bench.waiters(i), plain.waiters(i));
        same(at + "count(" + i + ")", bench.count(i), plain.count(i));
        same(at + "ran(" + i + ")", bench.ran(i), plain.ran(i));
        for (int what = -1; what <= 2; what++) {
            same(at + "miss(" + i + ", " + what + ")", bench.miss(i, what), plain.miss(i, what));
        }
    }
}
