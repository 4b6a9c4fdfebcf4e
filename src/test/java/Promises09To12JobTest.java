/** Promises 9 to 12: remaining, deadlineOf, effective and waitsFor, in all states of a JOB. */
public final class Promises09To12JobTest {
    private static final Check CHECK = new Check("Promises09To12JobTest");

    public static void main(String[] args) {
        noSuchTask();
        lifeOfAJob();
        chainOfWaiting();
        missedJob();
        CHECK.end();
    }

    private static void job(String story, DeadlineBench bench, int task, int... due) {
        CHECK.same(story + ": remaining(" + task + ")", bench.remaining(task), due[0]);
        CHECK.same(story + ": deadlineOf(" + task + ")", bench.deadlineOf(task), due[1]);
        CHECK.same(story + ": effective(" + task + ")", bench.effective(task), due[2]);
        CHECK.same(story + ": waitsFor(" + task + ")", bench.waitsFor(task), due[3]);
    }

    private static void noSuchTask() {
        DeadlineBench bench = new DeadlineBench(2, 1, 5, 5, 100);
        bench.addTask(10, 2, 10);
        bench.tick();
        int[] wrong = {1, 2, -1, 40, Integer.MAX_VALUE, Integer.MIN_VALUE};
        for (int task : wrong) {
            job("no such TASK", bench, task, 0, -1, -1, -1);
        }
    }

    private static void lifeOfAJob() {
        DeadlineBench bench = new DeadlineBench(2, 1, 5, 5, 100);
        bench.run(5);
        bench.addTask(10, 2, 9);
        job("before its RELEASE", bench, 0, 0, -1, -1, -1);
        bench.tick();
        job("one unit done", bench, 0, 1, 14, 14, -1);
        bench.tick();
        job("done", bench, 0, 0, -1, -1, -1);
        bench.run(9);
        job("the next one", bench, 0, 1, 24, 24, -1);
        bench.removeTask(0);
        job("removed", bench, 0, 0, -1, -1, -1);
    }

    private static void chainOfWaiting() {
        DeadlineBench bench = new DeadlineBench(4, 3, 9, 5, 200);
        bench.addTask(150, 9, 150);
        bench.addSection(0, 0, 0, 9);
        bench.tick();
        bench.addTask(150, 5, 120);
        bench.addSection(1, 0, 1, 5);
        bench.addSection(1, 1, 0, 2);
        bench.run(2);
        job("holder", bench, 0, 7, 150, 121, -1);
        job("waits for it", bench, 1, 4, 121, 121, 0);
        bench.addTask(150, 5, 90);
        bench.addSection(2, 0, 2, 5);
        bench.addSection(2, 1, 1, 2);
        bench.run(2);
        bench.addTask(150, 5, 60);
        bench.addSection(3, 0, 2, 1);
        bench.run(1);
        job("end of the chain", bench, 0, 5, 150, 65, -1);
        job("third of the chain", bench, 1, 4, 121, 65, 0);
        job("second of the chain", bench, 2, 4, 93, 65, 1);
        job("first of the chain", bench, 3, 5, 65, 65, 2);
        bench.removeTask(3);
        job("end without the first", bench, 0, 5, 150, 93, -1);
        job("third without the first", bench, 1, 4, 121, 93, 0);
        job("second without the first", bench, 2, 4, 93, 93, 1);
        bench.removeTask(1);
        job("end without the third", bench, 0, 5, 150, 150, -1);
        job("second without the third", bench, 2, 4, 93, 93, -1);
        CHECK.same("it was given the LOCK", bench.owner(1), 2);
    }

    private static void missedJob() {
        DeadlineBench bench = new DeadlineBench(2, 1, 5, 5, 100);
        bench.addTask(10, 5, 5);
        bench.addTask(10, 5, 6);
        bench.run(6);
        job("late, not yet told", bench, 1, 4, 6, 6, -1);
        bench.tick();
        job("dropped", bench, 1, 0, -1, -1, -1);
    }
}
