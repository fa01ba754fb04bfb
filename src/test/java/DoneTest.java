/** Promises 9 to 15: what is done, and UNDONE. */
final class DoneTest {
    private DoneTest() {
    }

    public static void main(String[] args) {
        days();
        daysByKind();
        list();
        mend();
        flood();
        drift();
        undo();
        seed();
        Checks.end();
    }

    private static void dueAfter(String text, int n, int fell, int... heaps) {
        RefusedStones x = Checks.built(text);
        Checks.due(text + ": days(" + n + ")", x.days(n), fell);
        Checks.dueStones(text, x, heaps);
    }

    private static void days() {
        Checks.promise("9 days");
        RefusedStones x = Checks.built("10,10,10,10;w1");
        for (int n : new int[] {0, 41, -1, Integer.MIN_VALUE, Integer.MAX_VALUE}) {
            Checks.due("days(" + n + ")", x.days(n), -1);
        }
        Checks.due("refused changes nothing", x.count(1), 0);
        Checks.due("days(9)", x.days(9), 0);
        Checks.dueStones("day 9", x, 1, 1, 1, 1);
        Checks.due("days(2)", x.days(2), 2);
        Checks.dueStones("day 11", x, 0, 1, 1, 1);
        Checks.dueCounts("day 11", x, 1, 11, 0, 9, 0, 2, 3, 1, 8);
        Checks.due("only those of these days", x.days(3), 3);

        RefusedStones y = new RefusedStones();
        for (int k = 0; k < 249; k++) {
            Checks.due("40 days", y.days(40), 0);
        }
        Checks.due("above 9999", y.days(40), -3);
        Checks.due("FULL changes nothing", y.count(1), 9960);
        Checks.due("a bad one", y.days(41), -1);
        Checks.due("days(39)", y.days(39), 0);
        Checks.due("days(1)", y.days(1), -3);
        Checks.due("drift(1)", y.drift(1), -3);
        Checks.due("the day", y.count(1), 9999);
        Checks.due("none was remembered", y.count(8), 8);
        Checks.due("undo()", y.undo(), 7);
        Checks.due("days(1)", y.days(1), 0);
    }

    private static void daysByKind() {
        Checks.promise("9 days, as 1 ARCHES tells");
        // Who falls goes no farther, and leaves a hole.
        dueAfter("5,1,5,5;w1", 1, 1, 4, 0, 5, 5);
        dueAfter("5,2,5,1;w1", 1, 1, 4, 1, 4, 0);
        dueAfter("5,5,2,5;c1", 1, 1, 3, 3, 0, 5);
        dueAfter("3,3,3,3;c1", 1, 0, 1, 1, 1, 1);
        // A duke wears nothing off arches 1 and 3, but falls through a hole.
        dueAfter("5,1,5,5;d1", 1, 0, 3, 1, 3, 5);
        dueAfter("5,0,5,5;d1", 1, 1, 3, 0, 5, 5);
        dueAfter("5,5,5,0;d1", 1, 1, 3, 5, 3, 0);
        dueAfter("5,5,5,5;t1", 1, 0, 3, 4, 4, 4);
        dueAfter("5,5,5,5;t1", 3, 0, 1, 1, 1, 2);
        dueAfter("5,5,5,5;t1", 4, 1, 0, 1, 1, 2);
        dueAfter("9,9,9,9;b1", 2, 0, 7, 7, 7, 7);
        // Stones go one by one to the least arch, of like ones to the first, 40 at most.
        dueAfter("1,5,2,2!a;d1a", 1, 0, 4, 5, 4, 3);
        dueAfter("3,3,3,3!a;c1a", 1, 0, 4, 4, 3, 3);
        dueAfter("40,40,40,39!a;d1a", 1, 0, 40, 40, 40, 40);
        dueAfter("9,9,9,5!a;b1a", 2, 0, 9, 9, 9, 6);
        dueAfter("9,9,9,5!a;b1a", 3, 0, 9, 9, 9, 7);
        dueAfter("9,9,9,5!a;t1a", 4, 0, 9, 9, 9, 5);
        dueAfter("9,9,9,5!a;w1a", 3, 0, 9, 9, 9, 8);
        // They come rising.
        dueAfter("1,9,9,9!a;w1a,w1", 1, 0, 1, 8, 8, 8);
        dueAfter("1,9,9,9!a;w1,w1a", 1, 1, 1, 9, 9, 9);
        // Some of one's looks are enough; none is not.
        dueAfter("9,9,9,9!bf;w1abc,w1acde,w1", 1, 0, 8, 7, 7, 7);
        // Every third day, on day 0, too.
        RefusedStones x = Checks.built("10,10,10,10;w3");
        int[] over = {1, 1, 1, 2, 2, 2, 3};
        for (int day = 0; day < over.length; day++) {
            x.days(1);
            Checks.due("over behind day " + day, x.count(3), over[day]);
        }
    }

    private static void list() {
        Checks.promise("10 list");
        RefusedStones x = new RefusedStones();
        for (int looks : new int[] {-1, 64, Integer.MIN_VALUE, Integer.MAX_VALUE}) {
            Checks.due("list(" + looks + ")", x.list(looks), -1);
        }
        Checks.due("it is so", x.list(0), -2);
        Checks.due("nothing to be undone by then", x.count(8), 0);
        Checks.due("list(63)", x.list(63), 0);
        Checks.due("it is so", x.list(63), -2);
        Checks.due("list(5)", x.list(5), 63);
        Checks.due("the list", x.count(2), 5);
        Checks.due("may be undone", x.count(8), 2);
    }

    private static void mend() {
        Checks.promise("11 mend");
        RefusedStones x = new RefusedStones();
        int[][] bad = {{-1, 1}, {4, 1}, {0, 0}, {0, 41}, {0, -1}, {Integer.MAX_VALUE, 1}, {0, Integer.MAX_VALUE},
            {Integer.MIN_VALUE, 1}, {0, Integer.MIN_VALUE}};
        for (int[] b : bad) {
            Checks.due("mend(" + b[0] + ", " + b[1] + ")", x.mend(b[0], b[1]), -1);
        }
        Checks.due("mend(1, 7)", x.mend(1, 7), 17);
        Checks.due("mend(1, 22)", x.mend(1, 22), 39);
        Checks.due("mend(1, 40)", x.mend(1, 40), 40);
        Checks.due("it has 40", x.mend(1, 1), -2);
        Checks.due("bad ahead of it", x.mend(1, 41), -1);
        Checks.due("mend(3, 30)", x.mend(3, 30), 40);
        Checks.dueStones("mended", x, 10, 40, 10, 40);
        Checks.due("may be undone", x.count(8), 4);
    }

    private static void flood() {
        Checks.promise("12 flood");
        RefusedStones x = Checks.built("5,6,0,40");
        for (int n : new int[] {0, 41, -1, Integer.MIN_VALUE, Integer.MAX_VALUE}) {
            Checks.due("flood(" + n + ")", x.flood(n), -1);
        }
        Checks.due("flood(4)", x.flood(4), 4);
        Checks.dueStones("flooded", x, 1, 2, 0, 36);
        Checks.due("flood(1)", x.flood(1), 5);
        Checks.due("flood(3)", x.flood(3), 7);
        Checks.dueStones("flooded", x, 0, 0, 0, 32);
        Checks.due("flood(40)", x.flood(40), 15);
        Checks.due("a flood of holes", x.flood(1), 15);
        Checks.due("may be undone", x.count(8), 5);
    }

    /** The draws of the seed 1, told in full: by which days which look turns. */
    private static void drift() {
        Checks.promise("13 drift");
        RefusedStones x = new RefusedStones();
        for (int n : new int[] {0, 41, -1, Integer.MIN_VALUE, Integer.MAX_VALUE}) {
            Checks.due("drift(" + n + ")", x.drift(n), -1);
        }
        java.math.BigInteger draw = java.math.BigInteger.ONE;
        int listed = 0;
        int turns = 0;
        for (int day = 0; day < 60; day++) {
            draw = draw.multiply(java.math.BigInteger.valueOf(1103515245)).add(java.math.BigInteger.valueOf(12345))
                .mod(java.math.BigInteger.TWO.pow(31));
            long number = draw.longValueExact();
            if (number / 65536 % 5 == 0) {
                listed ^= 1 << (number / 128 % 6);
                turns++;
            }
            Checks.due("drift on day " + day, x.drift(1), 0);
            Checks.due("the list behind day " + day, x.count(2), listed);
        }
        Checks.due("looks turned", turns > 5);
        Checks.due("the draw", x.seed(3), draw.longValueExact());
        // 3 becomes 1163074432: by 65536 it is 17747, left over by 5: 2.
        Checks.due("drift(1)", x.drift(1), 0);
        Checks.due("the draw behind 3", x.seed(Integer.MAX_VALUE), 3L * 1103515245L + 12345L - (1L << 31));
        Checks.due("the list is as it was", x.count(2), listed);
        x.drift(1);
        Checks.due("the draw behind the greatest", x.seed(0), (1L << 31) - 1103515245L + 12345L);

        // The look is drawn ahead of its day: by draw 1073741828 the next one turns none, see the oracle for more.
        RefusedStones y = Checks.built("1,1,1,1;w1abcdef");
        int fell = 0;
        int refused = 0;
        for (int k = 0; k < 40; k++) {
            int more = y.drift(1);
            boolean isRefused = y.count(2) != 0;
            Checks.due("refused by the list of this very day", y.count(4), refused += isRefused ? 1 : 0);
            fell += more;
            Checks.due("fell", y.count(5), fell);
        }
        Checks.due("some were refused", refused > 0 && refused < 40);
        RefusedStones z = Checks.built("1,1,1,1;w1abcdef");
        Checks.due("40 at once", z.drift(40), fell);
        Checks.dueCounts("40 at once", z, 1, 40, y.count(2), y.count(3), refused, fell, y.count(6), y.count(7), 8);
        Checks.due("undo()", z.undo(), 7);
        Checks.due("one day by itself", z.count(1), 39);

        RefusedStones late = new RefusedStones();
        for (int k = 0; k < 249; k++) {
            late.days(40);
        }
        late.seed(5);
        Checks.due("above 9999", late.drift(40), -3);
        Checks.due("FULL changes no draw", late.seed(5), 5);
        Checks.due("drift(39)", late.drift(39), 0);
        Checks.due("drift(1)", late.drift(1), -3);
    }

    private static void undo() {
        Checks.promise("14 undo");
        RefusedStones x = Checks.built("9,9,9,9!a;w1,c1a");
        Checks.due("nothing known", x.undo(), -4);
        x.days(1);
        Checks.dueStones("day 1", x, 9, 9, 8, 8);
        x.list(6);
        x.mend(2, 3);
        x.flood(2);
        x.seed(99);
        x.drift(1);
        Checks.dueStones("all done", x, 4, 4, 6, 3);
        Checks.dueCounts("all done", x, 2, 2, x.count(2), 3, 1, 0, 17, 0, 5);
        x.seed(1234);
        Checks.due("the drift", x.undo(), 4);
        Checks.due("the draw is as ahead of it", x.seed(7), 99);
        Checks.dueStones("the drift", x, 7, 7, 9, 6);
        Checks.dueCounts("the drift", x, 2, 1, 6, 1, 1, 0, 29, 0, 4);
        Checks.due("the flood", x.undo(), 3);
        Checks.due("the draw is as ahead of it", x.seed(7), 1);
        Checks.dueStones("the flood", x, 9, 9, 11, 8);
        Checks.due("mended", x.undo(), 2);
        Checks.dueStones("mended", x, 9, 9, 8, 8);
        Checks.due("listed", x.undo(), 1);
        Checks.dueCounts("listed", x, 2, 1, 1, 1, 1, 0, 34, 0, 1);
        Checks.due("the day", x.undo(), 0);
        Checks.dueStones("the day", x, 9, 9, 9, 9);
        Checks.dueCounts("the day", x, 2, 0, 1, 0, 0, 0, 36, 0, 0);
        Checks.due("none is known", x.undo(), -4);

        RefusedStones y = new RefusedStones();
        for (int k = 1; k <= 11; k++) {
            y.list(k);
        }
        Checks.due("8 are known", y.count(8), 8);
        for (int k = 10; k >= 3; k--) {
            Checks.due("undo to " + k, y.undo(), k - 3);
            Checks.due("the list", y.count(2), k);
        }
        Checks.due("older ones are lost", y.undo(), -4);
        y.days(20);
        y.undo();
        y.undo();
        y.list(50);
        Checks.due("known", y.count(8), 7);
        Checks.due("undo()", y.undo(), 6);
        Checks.dueCounts("back to day 18", y, 0, 18, 3);
        y.days(40);
        y.traveller(0, 0, 1);
        Checks.due("a new traveller", y.undo(), -4);
        y.days(40);
        Checks.bridge(y, "1,1,1,1");
        Checks.due("a bridge", y.undo(), -4);
    }

    private static void seed() {
        Checks.promise("15 seed");
        RefusedStones x = new RefusedStones();
        Checks.due("below 0", x.seed(-1), -1);
        Checks.due("below 0", x.seed(Integer.MIN_VALUE), -1);
        Checks.due("1 at first", x.seed(0), 1);
        Checks.due("seed(max)", x.seed(Integer.MAX_VALUE), 0);
        Checks.due("seed(5)", x.seed(5), Integer.MAX_VALUE);
        Checks.due("is nothing that may be undone", x.count(8), 0);
    }
}
