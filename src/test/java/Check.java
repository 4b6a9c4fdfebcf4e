/** Counts the answers of one test program that are as due, and prints those that are not. */
final class Check {
    private final String test;
    private int right;
    private int wrong;

    Check(String test) {
        this.test = test;
    }

    void same(String call, long got, long due) {
        if (got == due) {
            right++;
        } else {
            wrong++;
            System.out.println(test + ": " + call + " answered " + got + ", due is " + due);
        }
    }

    void isTrue(String call, boolean got) {
        same(call, got ? 1 : 0, 1);
    }

    void isFalse(String call, boolean got) {
        same(call, got ? 1 : 0, 0);
    }

    boolean allRight() {
        return wrong == 0;
    }

    void end() {
        System.out.println(test + ": " + right + " answers as due, " + wrong + " not");
        if (wrong != 0) {
            System.exit(1);
        }
    }
}
