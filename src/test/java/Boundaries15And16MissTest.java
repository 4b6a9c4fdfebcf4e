/** The boundary cases of promises 15 and 16. */
public final class Boundaries15And16MissTest {
    private static final Check CHECK = new Check("Boundaries15And16MissTest");

    public static void main(String[] args) {
        noMiss();
        asManyAsTheLogKeeps();
        notYetThatMany();
        anotherWhat();
        anotherWhatOfOneThatIsNotKept();
        countGoesOnBehindTheLog();
        changesNothing();
        CHECK.end();
    }

    /** From 1 on there are 39 MISSES in each tick, of 1 to 39. */
    private static DeadlineBench late(int log, int ticks) {
        DeadlineBench bench = new DeadlineBench(40, 0, 0, log, 1000);
        for (int number = 0; number < 40; number++) {
            bench.addTask(1, 1, 1);
        }
        for (int i = 0; i < ticks; i++) {
            bench.tick();
        }
        return bench;
    }

    private static void isKept(String story, DeadlineBench bench, int i) {
        CHECK.same(story + ": miss(" + i + ", 0)", bench.miss(i, 0), 1 + i % 39);
        CHECK.same(story + ": miss(" + i + ", 1)", bench.miss(i, 1), 1 + i / 39);
    }

    private static void isNotKept(String story, DeadlineBench bench, int i) {
        CHECK.same(story + ": miss(" + i + ", 0)", bench.miss(i, 0), -1);
        CHECK.same(story + ": miss(" + i + ", 1)", bench.miss(i, 1), -1);
    }

    private static void noMiss() {
        for (int log : new int[] {0, 1, 100}) {
            DeadlineBench bench = late(log, 1);
            CHECK.same("LOG " + log + ", none yet: missCount()", bench.missCount(), 0);
            for (int i : Ints.around(0, 100)) {
                isNotKept("LOG " + log + ", none yet", bench, i);
            }
        }
    }

    /** "Of the i-th MISS (from 0 on; as many as the LOG keeps)". */
    private static void asManyAsTheLogKeeps() {
        for (int log : new int[] {0, 1, 2, 38, 39, 40, 99, 100}) {
            DeadlineBench bench = late(log, 4);
            String story = "LOG " + log;
            CHECK.same(story + ": missCount()", bench.missCount(), 117);
            for (int i = 0; i < log; i++) {
                isKept(story, bench, i);
            }
            for (int i = log; i < 120; i++) {
                isNotKept(story, bench, i);
            }
            for (int i : Ints.outside(0, 119)) {
                isNotKept(story, bench, i);
            }
        }
    }

    /** "NONE ... if it is not kept": the LOG has room for it, but it was not yet. */
    private static void notYetThatMany() {
        DeadlineBench bench = late(100, 3);
        CHECK.same("LOG 100: missCount()", bench.missCount(), 78);
        isKept("LOG 100", bench, 0);
        isKept("LOG 100", bench, 76);
        isKept("LOG 100", bench, 77);
        isNotKept("LOG 100", bench, 78);
        isNotKept("LOG 100", bench, 79);
        bench.tick();
        isKept("LOG 100, a tick later", bench, 77);
        isKept("LOG 100, a tick later", bench, 78);
        isKept("LOG 100, a tick later", bench, 99);
        isNotKept("LOG 100, a tick later", bench, 100);
    }

    /** "NONE for another what". */
    private static void anotherWhat() {
        DeadlineBench bench = late(100, 3);
        for (int i : new int[] {0, 1, 77}) {
            isKept("LOG 100", bench, i);
            for (int what : Ints.outside(0, 1)) {
                CHECK.same("LOG 100: miss(" + i + ", " + what + ")", bench.miss(i, what), -1);
            }
        }
    }

    private static void anotherWhatOfOneThatIsNotKept() {
        DeadlineBench bench = late(2, 3);
        for (int i : Ints.outside(0, 1)) {
            for (int what : Ints.outside(0, 1)) {
                CHECK.same("LOG 2: miss(" + i + ", " + what + ")", bench.miss(i, what), -1);
            }
        }
    }

    /** Promise 15, "How many MISSES there were": all of them, whatever the LOG keeps and whoever is removed. */
    private static void countGoesOnBehindTheLog() {
        for (int log : new int[] {0, 1, 100}) {
            DeadlineBench bench = late(log, 200);
            CHECK.same("LOG " + log + ": missCount()", bench.missCount(), 199 * 39);
            for (int number = 0; number < 40; number++) {
                bench.removeTask(number);
            }
            CHECK.same("LOG " + log + ", all removed: missCount()", bench.missCount(), 199 * 39);
            if (log > 0) {
                isKept("LOG " + log + ", all removed", bench, log - 1);
            }
            isNotKept("LOG " + log + ", all removed", bench, log);
            bench.tick();
            CHECK.same("LOG " + log + ", a tick later: missCount()", bench.missCount(), 199 * 39);
        }
    }

    private static void changesNothing() {
        int[] values = {Integer.MIN_VALUE, -1, 0, 1, 2, 3, Integer.MAX_VALUE};
        for (Story story : Story.values()) {
            int misses = story.tell().missCount();
            Refused.check(CHECK, story, "missCount()", b -> b.missCount(), misses);
            for (int i : values) {
                for (int what : values) {
                    int due = story.tell().miss(i, what);
                    Refused.check(CHECK, story, "miss(" + i + ", " + what + ")", b -> b.miss(i, what), due);
                }
            }
        }
    }
}
