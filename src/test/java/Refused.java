import java.util.ArrayList;
import java.util.List;

/** "What is refused changes nothing": two objects of one Story, one with the refused call, show the same. */
final class Refused {
    interface Call {
        int answer(DeadlineBench bench);
    }

    private Refused() {
    }

    static void check(Check check, Story story, String told, Call call, int due) {
        DeadlineBench bench = story.tell();
        check.same(story + ": " + told, call.answer(bench), due);
        check.isTrue(story + ": " + told + " changes nothing", shown(bench).equals(shown(story.tell())));
    }

    static void checkInAll(Check check, String told, Call call, int due) {
        for (Story story : Story.values()) {
            check(check, story, told, call, due);
        }
    }

    /** All that is to be seen now, and all that later calls answer. */
    static List<Integer> shown(DeadlineBench bench) {
        List<Integer> seen = new ArrayList<>();
        look(bench, seen);
        ticks(bench, 12, seen);
        int added = bench.addTask(12, 3, 9);
        seen.add(added);
        seen.add(bench.addSection(added, 0, 2, 2) ? 1 : 0);
        ticks(bench, 6, seen);
        seen.add(bench.removeTask(0) ? 1 : 0);
        ticks(bench, 4, seen);
        seen.add(bench.run(2000));
        look(bench, seen);
        return seen;
    }

    private static void ticks(DeadlineBench bench, int many, List<Integer> seen) {
        for (int i = 0; i < many; i++) {
            seen.add(bench.tick());
        }
    }

    private static void look(DeadlineBench bench, List<Integer> seen) {
        for (int what = 0; what <= 6; what++) {
            seen.add(bench.count(what));
        }
        for (int task = 0; task < Story.TASKS; task++) {
            lookAtTask(bench, task, seen);
        }
        for (int lock = 0; lock < Story.LOCKS; lock++) {
            seen.add(bench.owner(lock));
            seen.add(bench.waiters(lock));
        }
        seen.add(bench.missCount());
        for (int i = 0; i <= Story.LOG; i++) {
            seen.add(bench.miss(i, 0));
            seen.add(bench.miss(i, 1));
        }
        for (int k = 0; k <= Story.LAST; k++) {
            seen.add(bench.ran(k));
        }
        seen.add(bench.admissible() ? 1 : 0);
    }

    private static void lookAtTask(DeadlineBench bench, int task, List<Integer> seen) {
        for (int what = 0; what <= 10; what++) {
            seen.add(bench.task(task, what));
        }
        seen.add(bench.remaining(task));
        seen.add(bench.deadlineOf(task));
        seen.add(bench.effective(task));
        seen.add(bench.waitsFor(task));
    }
}
