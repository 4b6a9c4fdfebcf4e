/** The boundary cases of promise 8. */
public final class Boundary08RanTest {
    private static final Check CHECK = new Check("Boundary08RanTest");

    public static void main(String[] args) {
        hundredAreKnown();
        knownAgainAndAgain();
        noneOrNoSuchTick();
        noTickAtLast();
        changesNothing();
        CHECK.end();
    }

    /** 0 runs at 0, 7, 14 and so on, 1 in the tick behind, none in the others. */
    private static DeadlineBench two() {
        DeadlineBench bench = new DeadlineBench(2, 0, 0, 0, 20000);
        bench.addTask(7, 1, 3);
        bench.addTask(7, 1, 5);
        return bench;
    }

    private static int ranAt(int time) {
        return time % 7 < 2 ? time % 7 : -1;
    }

    private static void allOf(DeadlineBench bench, int ticks) {
        for (int k : Ints.outside(0, 99)) {
            CHECK.same("of " + ticks + ": ran(" + k + ")", bench.ran(k), -2);
        }
        for (int k = 0; k < 100; k++) {
            CHECK.same("of " + ticks + ": ran(" + k + ")", bench.ran(k), k < ticks ? ranAt(ticks - 1 - k) : -2);
        }
    }

    /** "0 the latest; 100 are known", "-2 if there was no such TICK, or it is not known". */
    private static void hundredAreKnown() {
        for (int ticks : new int[] {0, 1, 2, 3, 98, 99, 100, 101, 102, 198, 199, 200, 201, 1999, 2000}) {
            DeadlineBench bench = two();
            bench.run(ticks);
            allOf(bench, ticks);
        }
    }

    private static void knownAgainAndAgain() {
        DeadlineBench bench = two();
        int ticks = 0;
        for (int i = 0; i < 10; i++) {
            ticks += bench.run(i < 9 ? 2000 : 1999);
        }
        allOf(bench, ticks);
        DeadlineBench atLast = two();
        ticks = 0;
        for (int i = 0; i < 11; i++) {
            ticks += atLast.run(2000);
        }
        CHECK.same("TICKS up to LAST", ticks, 20000);
        allOf(atLast, ticks);
    }

    /** "NONE if none did", and -2 where there was no TICK. */
    private static void noneOrNoSuchTick() {
        DeadlineBench bench = new DeadlineBench(1, 0, 0, 0, 60);
        CHECK.same("before the first TICK: ran(0)", bench.ran(0), -2);
        bench.addTask(60, 1, 60);
        CHECK.same("a TASK came, no TICK: ran(0)", bench.ran(0), -2);
        bench.run(0);
        CHECK.same("run(0): ran(0)", bench.ran(0), -2);
        bench.tick();
        CHECK.same("0 ran: ran(0)", bench.ran(0), 0);
        CHECK.same("0 ran: ran(1)", bench.ran(1), -2);
        bench.tick();
        CHECK.same("none ran: ran(0)", bench.ran(0), -1);
        CHECK.same("none ran: ran(1)", bench.ran(1), 0);
        CHECK.same("none ran: ran(2)", bench.ran(2), -2);
        bench.removeTask(0);
        CHECK.same("0 is removed: ran(1)", bench.ran(1), 0);
    }

    private static void noTickAtLast() {
        DeadlineBench bench = new DeadlineBench(1, 0, 0, 0, 1);
        bench.addTask(1, 1, 1);
        bench.tick();
        bench.tick();
        bench.run(5);
        CHECK.same("LAST 1: ran(0)", bench.ran(0), 0);
        CHECK.same("LAST 1: ran(1)", bench.ran(1), -2);
    }

    private static void changesNothing() {
        for (int k : Ints.outside(0, 99)) {
            Refused.checkInAll(CHECK, "ran(" + k + ")", bench -> bench.ran(k), -2);
        }
        Refused.checkInAll(CHECK, "ran(99)", bench -> bench.ran(99), -2);
        Refused.check(CHECK, Story.NEW, "ran(0)", bench -> bench.ran(0), -2);
        Refused.check(CHECK, Story.AT_LAST, "ran(59)", bench -> bench.ran(59), -1);
        Refused.check(CHECK, Story.AT_LAST, "ran(60)", bench -> bench.ran(60), -2);
    }
}
