/** The ints at the boundaries of a range: each end, its neighbours within and without, and the ends of all ints. */
final class Ints {
    private Ints() {
    }

    static int[] around(int least, int most) {
        return new int[] {
            Integer.MIN_VALUE, Integer.MIN_VALUE + 1, least - 2, least - 1, least, least + 1,
            most - 1, most, most + 1, most + 2, Integer.MAX_VALUE - 1, Integer.MAX_VALUE};
    }

    static int[] outside(int least, int most) {
        return new int[] {
            Integer.MIN_VALUE, Integer.MIN_VALUE + 1, least - 2, least - 1,
            most + 1, most + 2, Integer.MAX_VALUE - 1, Integer.MAX_VALUE};
    }

    static int nearest(int value, int least, int most) {
        return value < least ? least : value > most ? most : value;
    }
}
