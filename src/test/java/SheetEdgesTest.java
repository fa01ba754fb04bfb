/** The sentences of promises 28 to 34 that name an edge, each by itself. */
final class SheetEdgesTest {
    private static final int LOW = Integer.MIN_VALUE;
    private static final int HIGH = Integer.MAX_VALUE;
    private static final int ALL_LISTS = 64;
    private static final int ALL_KINDS = 0b11111;
    private static final int ALL_EVERIES = 0b1111111110;

    private interface Taking {
        int by(RefusedStones x, int sheet, int lane, int i, int n);
    }

    private SheetEdgesTest() {
    }

    public static void main(String[] args) {
        indexes();
        nullThenCast();
        listsAnswers();
        listsOfAnyItem();
        seenAnswers();
        seenEveries();
        film();
        sheet();
        drop();
        item();
        copyIndexes();
        copyMoves();
        Checks.end();
    }

    private static void fill(RefusedStones x, int sheet, int lane, long... items) {
        Checks.due("sheet", x.sheet(sheet, lane, items.length), items.length);
        for (int i = 0; i < items.length; i++) {
            Checks.due("item", x.item(sheet, lane, i, items[i]), 1);
        }
    }

    /** Nobody comes: a row of STONES as they are is SEEN by all LISTS, any other one by none. */
    private static void dueItems(String when, RefusedStones asBuilt, int sheet, int lane, int... items) {
        for (int i = 0; i < items.length; i++) {
            Checks.bridge(asBuilt, items[i] + ",0,0,0");
            Checks.due(when + ": item " + i, asBuilt.lists(0, sheet, lane, i, 1, 0), ALL_LISTS);
        }
    }

    private static void dueIndexes(String name, int most, Taking taking) {
        Checks.promise(name + ": INDEX: i below 0, or fewer than n items from i on");
        int[] sizes = {1, 2, 7, 8, 23, 24};
        for (int size : sizes) {
            RefusedStones x = Checks.built("9,9,9,9!b;w1b");
            x.sheet(2, 0, size);
            for (int n = 1; n <= most; n += n < 8 ? 1 : 8) {
                String row = n + " of " + size + " from ";
                if (n <= size) {
                    Checks.due(row + "0", taking.by(x, 2, 0, 0, n) >= 0);
                    Checks.due(row + "the last that may be", taking.by(x, 2, 0, size - n, n) >= 0);
                }
                Checks.due(row + "one more", taking.by(x, 2, 0, Math.max(0, size - n + 1), n), -13);
                Checks.due(row + "-1", taking.by(x, 2, 0, -1, n), -13);
            }
            for (int i : new int[] {size, size + 1, 24, HIGH, HIGH - 7, LOW, LOW + 8}) {
                Checks.due("from " + i + " of " + size, taking.by(x, 2, 0, i, most), -13);
                Checks.due("1 from " + i + " of " + size, taking.by(x, 2, 0, i, 1), -13);
            }
        }
        RefusedStones y = Checks.built("9,9,9,9!b;w1b");
        y.sheet(2, 0, 0);
        Checks.due("an empty row", taking.by(y, 2, 0, 0, 1), -13);
    }

    private static void indexes() {
        dueIndexes("28 lists", 8, (x, s, lane, i, n) -> x.lists(0, s, lane, i, n, 0));
        dueIndexes("29 seen", 8, (x, s, lane, i, n) -> x.seen(0, 0, s, lane, i, n, 0));
        dueIndexes("30 film", 24, (x, s, lane, i, n) -> x.film(0, n, s, lane, i));
        dueIndexes("33 item", 1, (x, s, lane, i, n) -> x.item(s, lane, i, 9));
    }

    private static void dueOrder(String name, Taking taking) {
        Checks.promise(name + ": NULL, ahead of CAST, ahead of INDEX, each in all LANES");
        RefusedStones x = Checks.built("9,9,9,9;w1");
        for (int lane = 0; lane < 4; lane++) {
            Checks.due("nothing, lane " + lane, taking.by(x, 3, lane, 0, 1), -11);
            Checks.due("nothing, no such item", taking.by(x, 3, lane, -1, 1), -11);
        }
        for (int own = 0; own < 4; own++) {
            x.sheet(3, own, 2);
            for (int lane = 0; lane < 4; lane++) {
                Checks.due(own + " as " + lane, taking.by(x, 3, lane, 0, 1) < 0 ? -12 : 0, own == lane ? 0 : -12);
                int due = own == lane ? -13 : -12;
                Checks.due(own + " as " + lane + ", no such item", taking.by(x, 3, lane, 2, 1), due);
            }
        }
        x.sheet(3, 1, 0);
        Checks.due("an empty row is no nothing", taking.by(x, 3, 0, 0, 1), -12);
        x.drop(3);
        Checks.due("nothing again", taking.by(x, 3, 1, 0, 1), -11);
    }

    private static void nullThenCast() {
        dueOrder("28 lists", (x, s, lane, i, n) -> x.lists(0, s, lane, i, n, 0));
        dueOrder("29 seen", (x, s, lane, i, n) -> x.seen(0, 0, s, lane, i, n, 0));
        dueOrder("30 film", (x, s, lane, i, n) -> x.film(0, n, s, lane, i));
        dueOrder("33 item", (x, s, lane, i, n) -> x.item(s, lane, i, 9));
    }

    private static void listsAnswers() {
        Checks.promise("28 lists: all 64, the least 0; one, 63; none: 0, NONE");
        RefusedStones x = Checks.built("0,0,0,0;w1a,w1b,w1c,w1d,w1e,w1f");
        fill(x, 0, 0, 2, 3);
        // 2 2 1 1 only if all six are refused; 2 1 1 1, too, if the first one falls by the hole that is there.
        Checks.due("how many, arch 1", x.lists(1, 0, 0, 0, 1, 0), 1);
        Checks.due("the least, arch 1", x.lists(1, 0, 0, 0, 1, 1), 63);
        Checks.due("how many, arch 0", x.lists(0, 0, 0, 0, 1, 0), 2);
        Checks.due("the least, arch 0", x.lists(0, 0, 0, 0, 1, 1), 62);
        Checks.due("none", x.lists(1, 0, 0, 1, 1, 0), 0);
        Checks.due("none", x.lists(1, 0, 0, 1, 1, 1), -4);
        RefusedStones y = new RefusedStones();
        fill(y, 1, 2, 10);
        Checks.due("all", y.lists(3, 1, 2, 0, 1, 0), 64);
        Checks.due("the least", y.lists(3, 1, 2, 0, 1, 1), 0);

        Checks.promise("28 lists: a row of 1, of 8: behind each of the next n DAYS");
        RefusedStones z = Checks.built("20,20,20,20!f;w1a,w2b");
        z.days(1);
        z.sheet(0, 0, 9);
        z.film(0, 9, 0, 0, 0);
        Checks.due("8 days", z.lists(0, 0, 0, 0, 8, 0), 16);
        Checks.due("as it is", z.lists(0, 0, 0, 0, 8, 1), 0);
        z.item(0, 0, 7, 39);
        Checks.due("7 days", z.lists(0, 0, 0, 0, 7, 0), 16);
        Checks.due("not the eighth", z.lists(0, 0, 0, 0, 8, 0), 0);
        Checks.due("from item 1 on they are no row of it", z.lists(0, 0, 0, 1, 4, 0), 0);
        Checks.due("the list stays", z.count(2), 32);
        z.days(1);
        Checks.due("from the next day on they are", z.lists(0, 0, 0, 1, 6, 0), 16);
    }

    private static void listsOfAnyItem() {
        Checks.promise("28 lists: items are taken with their sign, in all LANES");
        long[] wide = {-1, 10 + (1 << 7), 10 + (1L << 15), 10 + (1L << 31), 10 + (1L << 32), Long.MIN_VALUE + 10};
        for (int lane = 0; lane < 4; lane++) {
            RefusedStones x = new RefusedStones();
            fill(x, 0, lane, 10, -10, Long.MAX_VALUE, Long.MIN_VALUE, 266 - 256, -246);
            Checks.due("10", x.lists(0, 0, lane, 0, 1, 0), 64);
            Checks.due("-10", x.lists(0, 0, lane, 1, 1, 0), 0);
            Checks.due("the greatest", x.lists(0, 0, lane, 2, 1, 0), 0);
            Checks.due("the least", x.lists(0, 0, lane, 3, 1, 0), 0);
            Checks.due("-246, as a byte 10", x.lists(0, 0, lane, 5, 1, 0), lane == 0 ? 64 : 0);
            x.flood(10);
            Checks.due("the least as a byte, a short, an int: 0", x.lists(0, 0, lane, 3, 1, 0), lane < 3 ? 64 : 0);
            fill(x, 1, 3, wide);
            for (int i = 0; i < wide.length; i++) {
                Checks.due("no stones of long " + i, x.lists(0, 1, 3, i, 1, 1), -4);
            }
        }
    }

    private static void seenAnswers() {
        Checks.promise("29 seen: KINDS: all, one, none (0), likewise of who does not come");
        RefusedStones x = Checks.built("9,9,9,9;w1,w2");
        fill(x, 0, 0, 9, 8, 7, 6, 5, 8, 7, 5);
        Checks.due("off arch 1, by 8 7: the first wears 0, the second 1", x.seen(1, 0, 0, 0, 1, 1, 0), 0b01000);
        Checks.due("by 7", x.seen(1, 0, 0, 0, 2, 1, 0), 0b10101);
        Checks.due("by 6", x.seen(1, 0, 0, 0, 3, 1, 0), 0b00010);
        Checks.due("by 9: none", x.seen(1, 0, 0, 0, 0, 1, 0), 0);
        Checks.due("by 5: none", x.seen(1, 0, 0, 0, 4, 1, 0), 0);
        x.days(1);
        Checks.due("who does not come", x.seen(1, 1, 0, 0, 3, 1, 0), ALL_KINDS);
        Checks.due("he would have to", x.seen(1, 1, 0, 0, 2, 1, 0), 0);

        Checks.promise("29 seen: KINDS of one who is REFUSED, by what he GIVES");
        RefusedStones y = Checks.built("0,9,9,9!a;w1a");
        fill(y, 0, 0, 0, 1, 2, 6, 3);
        int[] byGift = {0b10000, 0b00101, 0b00010, 0b01000, 0};
        for (int i = 0; i < byGift.length; i++) {
            Checks.due("by item " + i, y.seen(0, 0, 0, 0, i, 1, 0), byGift[i]);
        }
        y.days(1);
        y.flood(1);
        Checks.due("on an odd day a beggar gives nothing", y.seen(0, 0, 0, 0, 0, 1, 0), 0b10100);

        Checks.promise("29 seen: he is of that KIND, that EVERY, all others as they are; nothing is changed");
        RefusedStones z = Checks.built("20,20,20,20!c;w1,c1a,t2c");
        z.days(3);
        String before = State.of(z);
        RefusedStones u = Checks.built("20,20,20,20!c;w1,c1a,t2c");
        u.days(3);
        for (int t = 0; t < 3; t++) {
            u.sheet(0, 0, 8);
            u.film(2, 8, 0, 0, 0);
            Checks.due("his own kind, " + t, (u.seen(2, t, 0, 0, 0, 8, 0) >> u.of(t, 0) & 1) == 1);
            Checks.due("his own every, " + t, (u.seen(2, t, 0, 0, 0, 8, 1) >> u.of(t, 2) & 1) == 1);
            u.drop(0);
        }
        Checks.due("nothing is changed", State.of(u).equals(before));
    }

    private static void seenEveries() {
        Checks.promise("29 seen: EVERY: a set of bits 1 .. 9: all on DAY 0, none (0), one");
        RefusedStones x = Checks.built("20,20,20,20;w1");
        fill(x, 0, 3, 19, 20, 18);
        Checks.due("all come on day 0", x.seen(0, 0, 0, 3, 0, 1, 1), ALL_EVERIES);
        Checks.due("none stays away", x.seen(0, 0, 0, 3, 1, 1, 1), 0);
        Checks.due("none wears 2", x.seen(0, 0, 0, 3, 2, 1, 1), 0);
        x.days(1);
        Checks.due("on day 1 the 1 alone", x.seen(0, 0, 0, 3, 2, 1, 1), 0b10);
        Checks.due("all others stay away", x.seen(0, 0, 0, 3, 0, 1, 1), ALL_EVERIES - 2);
        for (int every = 2; every <= 9; every++) {
            RefusedStones y = Checks.built("20,20,20,20;w" + every);
            y.days(1);
            y.sheet(0, 0, 8);
            y.film(3, 8, 0, 0, 0);
            Checks.due("8 days tell " + every, y.seen(3, 0, 0, 0, 0, 8, 1), every == 9 ? 1 << 9 : 1 << every);
        }
        RefusedStones z = Checks.built("20,20,20,20;w9");
        z.sheet(0, 0, 8);
        z.film(3, 8, 0, 0, 0);
        Checks.due("8 and 9 are alike by days 0 .. 7", z.seen(3, 0, 0, 0, 0, 8, 1), 0b1100000000);
    }

    private static void film() {
        Checks.promise("30 film: behind 1, 2, .. n DAYS, an item each; n of 1 and 24");
        RefusedStones x = Checks.built("40,40,40,40;w1");
        x.sheet(0, 1, 24);
        Checks.due("film", x.film(2, 24, 0, 1, 0), 24);
        dueItems("24 days", x, 0, 1, 39, 38, 37, 36, 35, 34, 33, 32, 31, 30, 29, 28, 27, 26, 25, 24, 23, 22, 21, 20, 19,
            18, 17, 16);
        for (int lane = 0; lane < 4; lane++) {
            RefusedStones y = Checks.built("40,40,40,40;w1");
            fill(y, 3, lane, 1, 2, 3, 4);
            Checks.due("film", y.film(1, 1, 3, lane, 3), 1);
            dueItems("at the end, lane " + lane, y, 3, lane, 1, 2, 3, 39);
            Checks.bridge(y, "30,0,0,0");
            Checks.due("film", y.film(0, 2, 3, lane, 1), 2);
            dueItems("in the midst, lane " + lane, y, 3, lane, 1, 30, 30, 39);
        }

        Checks.promise("30 film: what is refused changes no item; nothing else is changed");
        RefusedStones z = Checks.built("40,40,40,40;w1");
        fill(z, 0, 0, 5, 6, 7);
        Checks.due("beyond", z.film(0, 2, 0, 0, 2), -13);
        Checks.due("below 0", z.film(0, 3, 0, 0, -1), -13);
        Checks.due("another lane", z.film(0, 3, 0, 1, 0), -12);
        Checks.due("days and stones stay", z.count(1) + z.count(6), 160);
        dueItems("refused", z, 0, 0, 5, 6, 7);
    }

    private static void sheet() {
        Checks.promise("31 sheet: n of 0 and 24; BAD above; SIZE below 0; refused leaves the old row");
        RefusedStones x = new RefusedStones();
        Checks.due("24", x.sheet(0, 3, 24), 24);
        Checks.due("0", x.sheet(1, 3, 0), 0);
        Checks.due("-1", x.sheet(0, 0, -1), -14);
        Checks.due("far below 0", x.sheet(0, 0, LOW), -14);
        Checks.due("25", x.sheet(0, 0, 25), -1);
        Checks.due("far above", x.sheet(0, 0, HIGH), -1);
        Checks.due("the row of longs is there", x.item(0, 3, 23, 1), 1);
        Checks.due("of 24 items", x.drop(0), 24);
        Checks.due("where nothing is, -1", x.sheet(0, 0, -1), -14);
        Checks.due("nothing is there", x.drop(0), -11);
        Checks.due("the empty row", x.drop(1), 0);

        Checks.promise("31 sheet: a new row: all its items are 0, whatever was there");
        for (int lane = 0; lane < 4; lane++) {
            RefusedStones y = new RefusedStones();
            fill(y, 2, lane, 9, 9, 9);
            y.sheet(2, 3 - lane, 3);
            dueItems("a new row", y, 2, 3 - lane, 0, 0, 0);
            fill(y, 2, lane, 9, 9, 9);
            y.sheet(2, lane, 1);
            y.sheet(2, lane, 24);
            dueItems("greater than the old one", y, 2, lane, 0, 0, 0, 0);
        }

        Checks.promise("31 sheet: sheets 0 .. 3, each by itself");
        RefusedStones z = new RefusedStones();
        for (int s = 0; s < 4; s++) {
            fill(z, s, s, 10 * s, 10 * s + 1);
        }
        for (int s = 0; s < 4; s++) {
            dueItems("sheet " + s, z, s, s, 10 * s, 10 * s + 1);
        }
    }

    private static void drop() {
        Checks.promise("32 drop: how many items it had, 0 and 24, too; NULL: nothing is there");
        RefusedStones x = new RefusedStones();
        for (int size : new int[] {0, 1, 24}) {
            x.sheet(1, 2, size);
            x.sheet(2, 2, 3);
            Checks.due("drop", x.drop(1), size);
            Checks.due("again", x.drop(1), -11);
            Checks.due("another one stays", x.drop(2), 3);
        }
        x.sheet(0, 0, 2);
        x.drop(0);
        Checks.due("a new row behind it", x.sheet(0, 1, 4), 4);
        Checks.due("is of its lane", x.item(0, 1, 3, 0), 1);
    }

    private static void item() {
        Checks.promise("33 item: becomes v, its lowest bits, with their sign");
        int[] bits = {8, 16, 32, 64};
        for (int lane = 0; lane < 4; lane++) {
            RefusedStones x = new RefusedStones();
            x.sheet(0, lane, 3);
            long top = lane == 3 ? 0 : 1L << bits[lane];
            x.item(0, lane, 0, 10 + top);
            x.item(0, lane, 1, 10 - top);
            x.item(0, lane, 2, 10 + (1L << (bits[lane] - 1)));
            Checks.due("one above the lane's bits, lane " + lane, x.lists(0, 0, lane, 0, 2, 0), 64);
            Checks.due("the lane's sign, lane " + lane, x.lists(0, 0, lane, 2, 1, 0), 0);
            if (lane < 3) {
                x.sheet(1, lane + 1, 1);
                x.item(1, lane + 1, 0, 10 + top);
                Checks.due("kept by the next lane", x.lists(0, 1, lane + 1, 0, 1, 0), 0);
            }
        }

        Checks.promise("33 item: that one alone, the first and the last");
        RefusedStones y = new RefusedStones();
        y.sheet(0, 0, 24);
        y.item(0, 0, 0, 7);
        y.item(0, 0, 23, 8);
        dueItems("item", y, 0, 0, 7, 0, 0);
        Checks.bridge(y, "8,0,0,0");
        Checks.due("the last", y.lists(0, 0, 0, 23, 1, 0), 64);
        Checks.due("the last but one", y.lists(1, 0, 0, 22, 1, 0), 64);
    }

    private static void copyIndexes() {
        Checks.promise("34 copy: INDEX where no item is taken, if i, j is below 0, or above how many there are");
        RefusedStones x = new RefusedStones();
        x.sheet(0, 0, 5);
        x.sheet(1, 0, 3);
        x.sheet(2, 0, 0);
        int[][] taken = {{0, 0, 1, 0}, {0, 5, 1, 3}, {0, 5, 2, 0}, {2, 0, 2, 0}, {2, 0, 0, 5}};
        for (int[] c : taken) {
            Checks.due("no items", x.copy(c[0], c[1], c[2], c[3], 0), 0);
        }
        int[][] out = {{0, 6, 1, 0}, {0, 0, 1, 4}, {0, -1, 1, 0}, {0, 0, 1, -1}, {2, 1, 0, 0}, {0, 0, 2, 1},
            {0, HIGH, 1, 0}, {0, 0, 1, HIGH}, {0, LOW, 1, 0}, {0, 0, 1, LOW}, {2, -1, 2, 0}, {2, 0, 2, -1}};
        for (int[] c : out) {
            Checks.due("no items, out", x.copy(c[0], c[1], c[2], c[3], 0), -13);
        }

        Checks.promise("34 copy: INDEX (n below 0, too), by either of the two");
        for (int n : new int[] {-1, -5, LOW}) {
            Checks.due("n " + n, x.copy(0, 0, 1, 0, n), -13);
            Checks.due("n " + n + ", from the end", x.copy(0, 5, 1, 3, n), -13);
        }
        Checks.due("all of the lesser", x.copy(0, 0, 1, 0, 3), 3);
        Checks.due("one more than the target has", x.copy(0, 0, 1, 0, 4), -13);
        Checks.due("all of the lesser", x.copy(1, 0, 0, 2, 3), 3);
        Checks.due("one more than the source has", x.copy(1, 0, 0, 0, 4), -13);
        Checks.due("the last", x.copy(0, 4, 1, 2, 1), 1);
        Checks.due("behind the source's", x.copy(0, 5, 1, 2, 1), -13);
        Checks.due("behind the target's", x.copy(0, 4, 1, 3, 1), -13);
        Checks.due("from an empty row", x.copy(2, 0, 0, 0, 1), -13);
        Checks.due("to an empty row", x.copy(0, 0, 2, 0, 1), -13);
        Checks.due("far", x.copy(0, 1, 1, 1, HIGH), -13);
        Checks.due("far", x.copy(0, HIGH, 1, HIGH, HIGH), -13);

        Checks.promise("34 copy: NULL (either), ahead of CAST: of unlike LANES, ahead of INDEX");
        x.drop(3);
        x.sheet(1, 1, 3);
        Checks.due("nothing to copy from", x.copy(3, -1, 0, -1, -1), -11);
        Checks.due("nothing to copy to", x.copy(0, -1, 3, -1, -1), -11);
        Checks.due("nothing, to itself", x.copy(3, 0, 3, 0, 0), -11);
        Checks.due("unlike lanes", x.copy(0, 0, 1, 0, 1), -12);
        Checks.due("unlike lanes, no item", x.copy(1, 0, 0, 0, 0), -12);
        Checks.due("unlike lanes, no such item", x.copy(0, -1, 1, 9, -1), -12);
    }

    private static void copyMoves() {
        Checks.promise("34 copy: to the same one, as if all were taken ahead");
        int[][] moves = {{0, 1, 5}, {1, 0, 5}, {0, 2, 4}, {2, 0, 4}, {0, 0, 6}, {3, 2, 3}, {5, 0, 1}, {0, 5, 1}};
        for (int[] m : moves) {
            RefusedStones x = new RefusedStones();
            int[] want = {1, 2, 3, 4, 5, 6};
            fill(x, 0, 0, 1, 2, 3, 4, 5, 6);
            Checks.due("copy", x.copy(0, m[0], 0, m[1], m[2]), m[2]);
            int[] taken = want.clone();
            for (int k = 0; k < m[2]; k++) {
                want[m[1] + k] = taken[m[0] + k];
            }
            dueItems(m[2] + " from " + m[0] + " to " + m[1], x, 0, 0, want);
        }

        Checks.promise("34 copy: to another one; the source and what lies beside stay; refused changes nothing");
        RefusedStones y = new RefusedStones();
        fill(y, 0, 2, 1, 2, 3, 4);
        fill(y, 1, 2, 11, 12, 13, 14, 15);
        Checks.due("out", y.copy(0, 1, 1, 2, 4), -13);
        Checks.due("out", y.copy(0, 0, 1, 2, 4), -13);
        dueItems("refused", y, 1, 2, 11, 12, 13, 14, 15);
        Checks.due("2", y.copy(0, 1, 1, 2, 2), 2);
        dueItems("the target", y, 1, 2, 11, 12, 2, 3, 15);
        dueItems("the source", y, 0, 2, 1, 2, 3, 4);
        RefusedStones z = new RefusedStones();
        z.sheet(0, 0, 24);
        z.sheet(1, 0, 24);
        z.item(0, 0, 23, 40);
        Checks.due("24", z.copy(0, 0, 1, 0, 24), 24);
        Checks.bridge(z, "40,0,0,0");
        Checks.due("the last", z.lists(0, 1, 0, 23, 1, 0), 64);

        Checks.promise("34 copy: longs whole");
        RefusedStones u = new RefusedStones();
        fill(u, 0, 3, 10 + (1L << 40));
        fill(u, 1, 3, 10);
        Checks.due("before", u.lists(0, 1, 3, 0, 1, 0), 64);
        u.copy(0, 0, 1, 0, 1);
        Checks.due("behind", u.lists(0, 1, 3, 0, 1, 0), 0);
    }
}
