/** Promises 28 to 34: what was SEEN, and sheets that may be missing. */
final class SheetsTest {
    private static final int LOW = Integer.MIN_VALUE;
    private static final int HIGH = Integer.MAX_VALUE;

    private SheetsTest() {
    }

    public static void main(String[] args) {
        lists();
        seenKinds();
        film();
        sheet();
        drop();
        item();
        copy();
        Checks.end();
    }

    private static void fill(RefusedStones x, int sheet, int lane, long... items) {
        Checks.due("sheet", x.sheet(sheet, lane, items.length), items.length);
        for (int i = 0; i < items.length; i++) {
            Checks.due("item", x.item(sheet, lane, i, items[i]), 1);
        }
    }

    private static void lists() {
        Checks.promise("28 lists");
        RefusedStones x = Checks.built("9,9,9,9!f;w1a,c1b");
        int[][] bad = {{-1, 0, 0, 0, 1, 0}, {4, 0, 0, 0, 1, 0}, {0, -1, 0, 0, 1, 0}, {0, 4, 0, 0, 1, 0},
            {0, 0, -1, 0, 1, 0}, {0, 0, 4, 0, 1, 0}, {0, 0, 0, 0, 0, 0}, {0, 0, 0, 0, 9, 0}, {0, 0, 0, 0, -1, 0},
            {0, 0, 0, 0, 1, -1}, {0, 0, 0, 0, 1, 2}, {LOW, 0, 0, 0, 1, 0}, {0, HIGH, 0, 0, 1, 0}, {0, 0, LOW, 0, 1, 0},
            {0, 0, 0, 0, HIGH, 0}, {0, 0, 0, 0, 1, HIGH}, {0, 0, 0, HIGH, 9, 0}};
        for (int[] b : bad) {
            Checks.due("lists of bad " + java.util.Arrays.toString(b), x.lists(b[0], b[1], b[2], b[3], b[4], b[5]), -1);
        }
        Checks.due("nothing is there", x.lists(0, 0, 0, 0, 1, 0), -11);
        // Behind day 0 arch 0 has: both over 6; only the walker refused (into arch 0) 10 - 2; only the carter refused
        // 8 + 1 in arch 0; both refused 10 and, by 9 9 9 with 2 more, 10.
        fill(x, 0, 0, 99, 6, 3, 8, 9, 10);
        Checks.due("another lane", x.lists(0, 0, 1, 0, 1, 0), -12);
        Checks.due("another lane ahead of an index", x.lists(0, 0, 1, -1, 1, 0), -12);
        for (int[] at : new int[][] {{-1, 1}, {6, 1}, {5, 2}, {0, 7}, {LOW, 1}, {HIGH, 1}, {HIGH, 8}}) {
            Checks.due("index " + at[0] + ", " + at[1], x.lists(0, 0, 0, at[0], at[1], 0), -13);
        }
        int[][] want = {{0, 1, 0, -4}, {1, 2, 16, 0}, {3, 1, 16, 1}, {4, 1, 16, 2}, {5, 1, 16, 3}, {2, 1, 0, -4}};
        for (int[] w : want) {
            Checks.due("how many by item " + w[0], x.lists(0, 0, 0, w[0], w[1], 0), w[2]);
            Checks.due("the least by item " + w[0], x.lists(0, 0, 0, w[0], w[1], 1), w[3]);
        }
        fill(x, 3, 3, 6, (1L << 32) + 3);
        Checks.due("a long is not its lowest bits", x.lists(0, 3, 3, 0, 2, 0), 0);
        Checks.due("the first day alone", x.lists(0, 3, 3, 0, 1, 0), 16);
        fill(new RefusedStones(), 0, 0, 1);
        RefusedStones y = new RefusedStones();
        fill(y, 2, 2, 10, 10, 10, 10, 10, 10, 10, 10);
        Checks.due("8 days", y.lists(3, 2, 2, 0, 8, 0), 64);
        y.days(1);
        Checks.due("the list is not changed", y.count(2), 0);
    }

    private static void seenKinds() {
        Checks.promise("29 seen");
        RefusedStones x = Checks.built("9,9,9,9!b;w1a,c2b,w3");
        int[][] bad = {{-1, 0, 0, 0, 0, 1, 0}, {4, 0, 0, 0, 0, 1, 0}, {0, -1, 0, 0, 0, 1, 0}, {0, 3, 0, 0, 0, 1, 0},
            {0, 0, -1, 0, 0, 1, 0}, {0, 0, 4, 0, 0, 1, 0}, {0, 0, 0, -1, 0, 1, 0}, {0, 0, 0, 4, 0, 1, 0},
            {0, 0, 0, 0, 0, 0, 0}, {0, 0, 0, 0, 0, 9, 0}, {0, 0, 0, 0, 0, 1, -1}, {0, 0, 0, 0, 0, 1, 2},
            {LOW, 0, 0, 0, 0, 1, 0}, {0, HIGH, 0, 0, 0, 1, 0}, {0, 0, LOW, 0, 0, 1, 0}, {0, 0, 0, HIGH, 0, 1, 0},
            {0, 0, 0, 0, 0, LOW, 0}, {0, 0, 0, 0, 0, 1, LOW}};
        for (int[] b : bad) {
            Checks.due("seen of bad " + java.util.Arrays.toString(b),
                x.seen(b[0], b[1], b[2], b[3], b[4], b[5], b[6]), -1);
        }
        Checks.due("nothing is there", x.seen(0, 0, 0, 0, 0, 1, 0), -11);

        RefusedStones y = Checks.built("9,9,9,9!f;w1");
        fill(y, 0, 1, 8, 7, 7, 9, 6, 5);
        Checks.due("another lane", y.seen(0, 0, 0, 0, 0, 1, 0), -12);
        for (int[] at : new int[][] {{-1, 1}, {6, 1}, {5, 2}, {0, 7}, {LOW, 1}, {HIGH, 1}, {HIGH, 8}}) {
            Checks.due("index " + at[0] + ", " + at[1], y.seen(0, 0, 0, 1, at[0], at[1], 0), -13);
        }
        // Off arch 1 on day 0 a walker, a beggar, a thief wear 1, a carter 2, a duke nothing.
        Checks.due("by 8", y.seen(1, 0, 0, 1, 0, 1, 0), 0b10101);
        Checks.due("by 7", y.seen(1, 0, 0, 1, 1, 1, 0), 0b00010);
        Checks.due("by 9", y.seen(1, 0, 0, 1, 3, 1, 0), 0b01000);
        Checks.due("by 6", y.seen(1, 0, 0, 1, 4, 1, 0), 0);
        // 8 7 7: he came on days 0 and 1, not on day 2: none; 7 off arch 0 is a carter's, a duke's, a thief's.
        Checks.due("by 8, 7, 7", y.seen(1, 0, 0, 1, 0, 3, 0), 0);
        Checks.due("arch 0 by 7", y.seen(0, 0, 0, 1, 1, 1, 0), 0b11010);
        Checks.due("every by 8", y.seen(1, 0, 0, 1, 0, 1, 1), 0b1111111110);
        Checks.due("every by 8, 7", y.seen(1, 0, 0, 1, 0, 2, 1), 0b10);
        Checks.due("every by 8, 7, 7", y.seen(1, 0, 0, 1, 0, 3, 1), 0);
        fill(y, 0, 1, 8, 8, 7, 7, 6);
        Checks.due("every by 8, 8, 7, 7, 6", y.seen(1, 0, 0, 1, 0, 5, 1), 0b100);
        fill(y, 0, 1, 8, 8, 8, 8, 8, 7);
        Checks.due("every by the sixth", y.seen(1, 0, 0, 1, 0, 6, 1), 0b100000);
        Checks.due("he is not changed", y.of(0, 0) * 10 + y.of(0, 2), 1);
        // The others stay as they are.
        RefusedStones z = Checks.built("9,9,9,9;w1,c1");
        fill(z, 0, 0, 5);
        Checks.due("every of the second", z.seen(1, 1, 0, 0, 0, 1, 1), 0);
        Checks.due("kinds of the first", z.seen(1, 0, 0, 0, 0, 1, 0), 0b00010);
        Checks.due("kinds of the second", z.seen(1, 1, 0, 0, 0, 1, 0), 0);
        fill(z, 0, 0, 6);
        Checks.due("kinds of the second", z.seen(1, 1, 0, 0, 0, 1, 0), 0b00010);
        Checks.due("every of the second", z.seen(1, 1, 0, 0, 0, 1, 1), 0b1111111110);
        RefusedStones u = Checks.built("9,9,9,9;w1,c1");
        fill(u, 0, 0, 6);
        Checks.due("every, asked first", u.seen(1, 1, 0, 0, 0, 1, 1), 0b1111111110);
        Checks.due("by the list that it is", Checks.built("9,9,9,9!a;w1a").seen(0, 0, 0, 0, 0, 1, 0), -11);
    }

    private static void film() {
        Checks.promise("30 film");
        RefusedStones x = Checks.built("30,30,30,30;w1");
        int[][] bad = {{-1, 1, 0, 0, 0}, {4, 1, 0, 0, 0}, {0, 0, 0, 0, 0}, {0, 25, 0, 0, 0}, {0, 1, -1, 0, 0},
            {0, 1, 4, 0, 0}, {0, 1, 0, -1, 0}, {0, 1, 0, 4, 0}, {LOW, 1, 0, 0, 0}, {0, HIGH, 0, 0, 0}, {0, LOW, 0, 0, 0}};
        for (int[] b : bad) {
            Checks.due("film of bad " + java.util.Arrays.toString(b), x.film(b[0], b[1], b[2], b[3], b[4]), -1);
        }
        Checks.due("nothing is there", x.film(0, 1, 0, 0, 0), -11);
        x.sheet(0, 0, 24);
        Checks.due("another lane", x.film(0, 1, 0, 1, 0), -12);
        for (int[] at : new int[][] {{-1, 1}, {24, 1}, {1, 24}, {23, 2}, {LOW, 1}, {HIGH, 24}}) {
            Checks.due("index " + at[0] + ", " + at[1], x.film(0, at[1], 0, 0, at[0]), -13);
        }
        Checks.due("what is refused changes nothing", x.lists(0, 0, 0, 23, 1, 0), 0);
        Checks.due("film", x.film(0, 24, 0, 0, 0), 24);
        x.sheet(1, 0, 8);
        Checks.due("the bridge is not changed", x.count(1) * 1000 + x.stones(0), 30);
        // The items are 29, 28, .. 6; a bridge of as many days on shows the rest.
        x.days(16);
        x.copy(0, 16, 1, 0, 8);
        Checks.due("the last 8", x.lists(0, 1, 0, 0, 8, 0), 64);
        Checks.due("film from item 3 on", x.film(1, 2, 1, 0, 3), 2);
        Checks.due("from item 3 on", x.lists(2, 1, 0, 3, 2, 0), 64);
        Checks.due("item 5 stays", x.copy(1, 5, 1, 0, 1), 1);
        Checks.due("item 5 stays", x.lists(2, 1, 0, 0, 1, 0), 0);
        x.sheet(2, 3, 1);
        Checks.due("longs", x.film(1, 1, 2, 3, 0), 1);
        Checks.due("longs", x.lists(2, 2, 3, 0, 1, 0), 64);
    }

    private static void sheet() {
        Checks.promise("31 sheet");
        RefusedStones x = new RefusedStones();
        int[][] bad = {{-1, 0, 1}, {4, 0, 1}, {0, -1, 1}, {0, 4, 1}, {0, 0, 25}, {0, 0, HIGH}, {4, 0, -1}, {0, 4, -1},
            {LOW, 0, 0}, {HIGH, 0, 0}, {0, LOW, 0}, {0, HIGH, 0}};
        for (int[] b : bad) {
            Checks.due("sheet of bad " + java.util.Arrays.toString(b), x.sheet(b[0], b[1], b[2]), -1);
        }
        Checks.due("none is there", x.drop(0), -11);
        Checks.due("below 0", x.sheet(0, 0, -1), -14);
        Checks.due("below 0", x.sheet(0, 3, LOW), -14);
        Checks.due("none is there", x.drop(0), -11);
        Checks.due("empty", x.sheet(3, 3, 0), 0);
        Checks.due("an empty one is there", x.drop(3), 0);
        Checks.due("24", x.sheet(3, 3, 24), 24);
        x.item(3, 3, 5, 10);
        Checks.due("below 0 leaves it", x.sheet(3, 0, -1), -14);
        Checks.due("10 stones", x.lists(0, 3, 3, 5, 1, 0), 64);
        Checks.due("a new one", x.sheet(3, 3, 7), 7);
        Checks.due("has zeros", x.lists(0, 3, 3, 5, 1, 0), 0);
        x.item(3, 3, 0, 9);
        x.sheet(3, 3, 7);
        x.mend(0, 1);
        x.flood(40);
        Checks.due("has zeros", x.lists(0, 3, 3, 0, 7, 0), 64);
        Checks.due("of another lane", x.sheet(3, 0, 2), 2);
        Checks.due("of another lane", x.item(3, 3, 0, 1), -12);
    }

    private static void drop() {
        Checks.promise("32 drop");
        RefusedStones x = new RefusedStones();
        for (int s : new int[] {-1, 4, LOW, HIGH}) {
            Checks.due("drop(" + s + ")", x.drop(s), -1);
        }
        for (int s = 0; s < 4; s++) {
            x.sheet(s, s, 5 + s);
        }
        for (int s = 0; s < 4; s++) {
            Checks.due("drop(" + s + ")", x.drop(s), 5 + s);
            Checks.due("again", x.drop(s), -11);
            Checks.due("item", x.item(s, s, 0, 1), -11);
        }
    }

    private static void item() {
        Checks.promise("33 item");
        RefusedStones x = new RefusedStones();
        int[][] bad = {{-1, 0}, {4, 0}, {0, -1}, {0, 4}, {LOW, 0}, {0, HIGH}};
        for (int[] b : bad) {
            Checks.due("item of bad " + java.util.Arrays.toString(b), x.item(b[0], b[1], 0, 1), -1);
        }
        Checks.due("nothing is there", x.item(0, 0, -1, 1), -11);
        // 10 in the lowest bits of each lane, with others above.
        long[] wide = {10 + (1L << 8), 10 + (1L << 16), 10 + (1L << 32), 10};
        long[] toWide = {10 + (1L << 7), 10 + (1L << 15), 10 + (1L << 31), 10 + (1L << 63)};
        for (int lane = 0; lane < 4; lane++) {
            x.sheet(0, lane, 3);
            Checks.due("another lane", x.item(0, (lane + 1) % 4, -1, 10), -12);
            for (int i : new int[] {-1, 3, LOW, HIGH}) {
                Checks.due("item " + i, x.item(0, lane, i, 10), -13);
            }
            Checks.due("lowest bits", x.item(0, lane, 2, wide[lane]), 1);
            Checks.due("10 in lane " + lane, x.lists(0, 0, lane, 2, 1, 0), 64);
            Checks.due("lowest bits", x.item(0, lane, 2, toWide[lane]), 1);
            Checks.due("not 10 in lane " + lane, x.lists(0, 0, lane, 2, 1, 0), 0);
        }
        // A lane keeps all its bits: what a short holds is no byte's.
        x.sheet(1, 1, 1);
        x.item(1, 1, 0, 10 + (1 << 8));
        Checks.due("a short's 266", x.lists(0, 1, 1, 0, 1, 0), 0);
        x.sheet(1, 2, 1);
        x.item(1, 2, 0, 10 + (1 << 16));
        Checks.due("an int's 65546", x.lists(0, 1, 2, 0, 1, 0), 0);
        x.sheet(1, 3, 0);
        Checks.due("an empty row", x.item(1, 3, 0, 1), -13);
    }

    private static void copy() {
        Checks.promise("34 copy");
        RefusedStones x = new RefusedStones();
        int[][] bad = {{-1, 0}, {4, 0}, {0, -1}, {0, 4}, {LOW, 0}, {0, HIGH}};
        for (int[] b : bad) {
            Checks.due("copy of bad " + java.util.Arrays.toString(b), x.copy(b[0], 0, b[1], 0, 0), -1);
        }
        x.sheet(0, 0, 5);
        Checks.due("no source", x.copy(1, 0, 0, 0, 0), -11);
        Checks.due("no target", x.copy(0, -1, 1, 0, -1), -11);
        x.sheet(1, 1, 5);
        Checks.due("unlike lanes", x.copy(0, -1, 1, 0, 1), -12);
        x.sheet(1, 0, 3);
        int[][] out = {{0, 0, -1}, {0, 0, LOW}, {-1, 0, 0}, {0, -1, 0}, {6, 0, 0}, {0, 4, 0}, {-1, 0, 1}, {0, -1, 1},
            {5, 0, 1}, {0, 3, 1}, {3, 0, 3}, {0, 1, 3}, {0, 0, 4}, {0, 0, HIGH}, {HIGH, 0, HIGH}, {0, HIGH, HIGH},
            {HIGH, 0, 1}, {0, HIGH, 1}, {LOW, 0, 1}, {0, LOW, 1}, {LOW, LOW, LOW}};
        for (int[] o : out) {
            Checks.due("copy out of it " + java.util.Arrays.toString(o), x.copy(0, o[0], 1, o[1], o[2]), -13);
        }
        Checks.due("none at the end", x.copy(0, 5, 1, 3, 0), 0);
        Checks.due("all", x.copy(0, 2, 1, 0, 3), 3);

        // Within one sheet, both ways: what lies over is as if taken ahead. Stones of 4 days tell the items.
        RefusedStones y = Checks.built("9,9,9,9;w1");
        fill(y, 0, 0, 8, 7, 6, 5, 0, 0);
        Checks.due("to the right", y.copy(0, 0, 0, 2, 4), 4);
        Checks.due("to the right", y.lists(0, 0, 0, 2, 4, 0), 64);
        Checks.due("the first two stay", y.lists(0, 0, 0, 0, 2, 0), 64);
        Checks.due("to the left", y.copy(0, 2, 0, 1, 4), 4);
        Checks.due("to the left", y.lists(0, 0, 0, 1, 4, 0), 64);
        fill(y, 1, 0, 1, 1, 1, 1);
        Checks.due("to another", y.copy(0, 1, 1, 0, 4), 4);
        Checks.due("to another", y.lists(0, 1, 0, 0, 4, 0), 64);
        fill(y, 2, 0, 1, 1, 1);
        Checks.due("one in the midst", y.copy(1, 0, 2, 1, 1), 1);
        Checks.due("one in the midst", y.lists(0, 2, 0, 1, 1, 0) + y.lists(0, 2, 0, 0, 1, 0) + y.lists(0, 2, 0, 2, 1, 0), 64);
    }
}
