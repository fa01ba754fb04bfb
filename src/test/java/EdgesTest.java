/**
 * The sentences of the terms and of promises 1 to 27 that name an edge (the least, the greatest, one beyond, empty, full,
 * begun anew, refused), each by itself. What is no number as told stands in NumbersTest, sheets in SheetEdgesTest, the
 * TEXT in TextTest.
 */
final class EdgesTest {
    /** By THE DRAW times this, and 12345 more, 31 bits of it: what undoes the times. */
    private static final long BACK = inverse(1103515245L);

    private EdgesTest() {
    }

    public static void main(String[] args) {
        arches();
        travellers();
        kinds();
        dayRefused();
        dayOver();
        doneEdges();
        undone();
        drawn();
        lastDay();
        foretold();
        firsts();
        chosen();
        bears();
        floods();
        images();
        Checks.end();
    }

    /** 1 where 31 bits are all: the number times its inverse. */
    private static long inverse(long number) {
        long back = 1;
        for (int k = 0; k < 6; k++) {
            back *= 2 - number * back;
        }
        return back & 0x7fffffffL;
    }

    private static void edge(String sentence) {
        Checks.promise(sentence);
    }

    private static void dueDay(String text, int fell, int over, int refused, int... heaps) {
        RefusedStones x = Checks.built(text);
        Checks.due(text + ": days(1)", x.days(1), fell);
        Checks.dueStones(text, x, heaps);
        Checks.dueCounts(text, x, x.count(0), 1, x.count(2), over, refused, fell);
    }

    private static void arches() {
        edge("1 a new object: STONES 10 at first, THE LIST 0, DAY 0, nothing counted, THE DRAW 1");
        RefusedStones x = new RefusedStones();
        Checks.dueStones("new", x, 10, 10, 10, 10);
        Checks.dueCounts("new", x, 0, 0, 0, 0, 0, 0, 40, 0, 0);
        Checks.due("the draw", x.seed(1), 1);

        edge("1 a new object: nobody, no image, nothing undone, an empty tape, sheets that hold nothing");
        Checks.due("nobody", x.of(0, 0), -1);
        Checks.due("no image", x.restore(), -4);
        Checks.due("nothing to be undone", x.undo(), -4);
        for (int s = 0; s < 4; s++) {
            Checks.due("sheet " + s, x.drop(s), -11);
        }
        Checks.due("the first letter", x.type('1'), 1);

        edge("terms: STONES 0 .. 40, one without is a HOLE");
        Checks.dueStones("least and greatest", Checks.built("0,40,0,40"), 0, 40, 0, 40);
        Checks.due("two holes", Checks.built("0,40,0,40").count(7), 0b0101);
        Checks.due("two others", Checks.built("40,0,40,0").count(7), 0b1010);
        Checks.due("one stone is no hole", Checks.built("1,1,1,1").count(7), 0);
        Checks.due("all holes", Checks.built("0,0,0,0").count(7), 15);
        Checks.due("no stones together", Checks.built("0,0,0,0").count(6), 0);
        Checks.due("all stones together", Checks.built("40,40,40,40").count(6), 160);
    }

    private static void travellers() {
        edge("2 traveller: the number, 0 .. 5, as they come; FULL: 6");
        RefusedStones x = new RefusedStones();
        for (int t = 0; t < 6; t++) {
            Checks.due("how many ahead of it", x.count(0), t);
            Checks.due("no such one yet", x.of(t, 0), -1);
            Checks.due("the number", x.traveller(t % 5, t, 9), t);
        }
        String before = State.of(sixAndMore());
        RefusedStones y = sixAndMore();
        Checks.due("the seventh", y.traveller(1, 1, 1), -3);
        Checks.due("the seventh again", y.traveller(1, 1, 1), -3);
        Checks.due("FULL changes nothing", State.of(y).equals(before));
        RefusedStones z = Checks.built("1,1,1,1;w1,w1,w1,w1,w1,w1");
        Checks.due("six by a bridge", z.traveller(0, 0, 1), -3);
        Checks.due("one by a bridge", Checks.built("1,1,1,1;w1").traveller(0, 0, 1), 1);
        Checks.bridge(z, "1,1,1,1");
        Checks.due("nobody, again", z.traveller(0, 0, 1), 0);

        edge("2 traveller: of the least and the greatest KIND, LOOKS, EVERY");
        RefusedStones u = new RefusedStones();
        u.traveller(0, 0, 1);
        u.traveller(4, 63, 9);
        int[][] want = {{0, 0, 1}, {4, 63, 9}};
        for (int t = 0; t < 2; t++) {
            for (int what = 0; what < 3; what++) {
                Checks.due("of(" + t + ", " + what + ")", u.of(t, what), want[t][what]);
            }
        }

        edge("terms: come on DAYS that are a multiple of EVERY (1 .. 9; on DAY 0, too)");
        RefusedStones v = Checks.built("40,40,40,40!a;w1a,w2a,w9a,w8a");
        int[] every = {1, 2, 9, 8};
        int refused = 0;
        for (int day = 0; day < 28; day++) {
            for (int t = 0; t < 4; t++) {
                Checks.due("day " + day + ", every " + every[t], v.of(t, 3), day % every[t] == 0 ? 1 : 0);
                refused += day % every[t] == 0 ? 1 : 0;
            }
            v.days(1);
            Checks.due("refused by day " + day, v.count(4), refused);
        }
    }

    private static RefusedStones sixAndMore() {
        RefusedStones x = Checks.built("9,9,9,9!b;w1,c2b,b3,d4,t5,w6");
        x.days(3);
        x.image();
        x.list(5);
        return x;
    }

    private static void kinds() {
        edge("3 of: BEGGAR GIVES nothing on DAYS of an odd number, else as WALKER; THIEF 1 less (0 at least)");
        RefusedStones x = Checks.built("9,9,9,9;b9,t9,w9,c9,d9");
        int[][] gives = {{1, 0, 1, 2, 6}, {0, 0, 1, 2, 6}};
        for (int day = 0; day < 6; day++) {
            for (int t = 0; t < 5; t++) {
                Checks.due("day " + day + ", of(" + t + ", 5)", x.of(t, 5), gives[day % 2][t]);
            }
            x.days(1);
        }

        edge("3 of: whether he would be REFUSED, by no LOOK, by the first, by the last, by all");
        RefusedStones y = Checks.built("9,9,9,9;w1,w1a,w1f,w1abcdef,w1bcde");
        int[][] refused = {{0, 0, 0, 0, 0, 0}, {1, 0, 1, 0, 1, 0}, {32, 0, 0, 1, 1, 0}, {33, 0, 1, 1, 1, 0},
            {30, 0, 0, 0, 1, 1}, {63, 0, 1, 1, 1, 1}};
        for (int[] row : refused) {
            y.list(row[0]);
            for (int t = 0; t < 5; t++) {
                Checks.due("list " + row[0] + ", of(" + t + ", 4)", y.of(t, 4), row[1 + t]);
            }
        }
        RefusedStones away = Checks.built("9,9,9,9!a;w2a");
        away.days(1);
        Checks.due("he does not come", away.of(0, 3), 0);
        Checks.due("he would be refused", away.of(0, 4), 1);
        Checks.due("he would give", away.of(0, 5), 1);

        edge("4 wears: DUKE nothing off ARCHES that are not of an even number; THIEF by DAY, left over by 4");
        RefusedStones z = Checks.built("9,9,9,9;d9,t9");
        for (int day = 0; day < 9; day++) {
            for (int arch = 0; arch < 4; arch++) {
                Checks.due("day " + day + ", duke off " + arch, z.wears(0, arch), arch % 2 == 0 ? 2 : 0);
                Checks.due("day " + day + ", thief off " + arch, z.wears(1, arch), day % 4 == arch ? 2 : 1);
            }
            z.days(1);
        }
    }

    private static void dayRefused() {
        edge("terms: one by one, each into the ARCH that has least by then, of like ones the first");
        dueDay("0,0,0,0!a;d1a", 0, 0, 1, 2, 2, 1, 1);
        dueDay("3,2,1,0!a;d1a", 0, 0, 1, 3, 3, 3, 3);
        dueDay("3,3,3,2!a;c1a", 0, 0, 1, 4, 3, 3, 3);
        dueDay("9,9,9,0!a;d1a", 0, 0, 1, 9, 9, 9, 6);
        dueDay("9,0,9,0!a;w1a", 0, 0, 1, 9, 1, 9, 0);

        edge("terms: 40 at most; what is above is lost");
        dueDay("40,40,40,40!a;d1a", 0, 0, 1, 40, 40, 40, 40);
        dueDay("40,40,39,40!a;d1a", 0, 0, 1, 40, 40, 40, 40);
        dueDay("39,39,39,39!a;d1a", 0, 0, 1, 40, 40, 40, 40);
        dueDay("40,34,40,40!a;d1a", 0, 0, 1, 40, 40, 40, 40);
        dueDay("40,33,40,40!a;d1a", 0, 0, 1, 40, 39, 40, 40);

        edge("terms: who GIVES nothing is REFUSED all the same");
        dueDay("5,5,5,5!a;t1a", 0, 0, 1, 5, 5, 5, 5);
        RefusedStones odd = Checks.built("5,5,5,5!a;b1a");
        odd.days(2);
        Checks.dueStones("the beggar gave on day 0 alone", odd, 6, 5, 5, 5);
        Checks.due("refused twice", odd.count(4), 2);

        edge("terms: one of whose LOOKS some are on THE LIST is REFUSED; one of no LOOKS never");
        dueDay("9,9,9,9!abcdef;w1", 0, 1, 0, 8, 8, 8, 8);
        dueDay("9,9,9,9!f;w1ef", 0, 0, 1, 10, 9, 9, 9);
        dueDay("9,9,9,9!f;w1abcde", 0, 1, 0, 8, 8, 8, 8);
        dueDay("9,9,9,9;w1abcdef", 0, 1, 0, 8, 8, 8, 8);

        edge("terms: those who come on it, rising");
        dueDay("1,9,9,9!a;w1a,w1", 0, 1, 1, 1, 8, 8, 8);
        dueDay("1,9,9,9!a;w1,w1a", 1, 0, 1, 1, 9, 9, 9);
        dueDay("3,9,9,9;w1,c1", 1, 1, 0, 0, 8, 8, 8);
        dueDay("3,9,9,9;c1,w1", 1, 1, 0, 0, 7, 7, 7);
    }

    private static void dayOver() {
        edge("terms: if it has more STONES than he WEARS off it, these are gone");
        dueDay("2,2,2,2;w1", 0, 1, 0, 1, 1, 1, 1);
        dueDay("3,3,3,3;c1", 0, 1, 0, 1, 1, 1, 1);
        dueDay("2,2,2,2;b1", 0, 1, 0, 1, 1, 1, 1);
        dueDay("3,1,3,1;d1", 0, 1, 0, 1, 1, 1, 1);
        dueDay("3,2,2,2;t1", 0, 1, 0, 1, 1, 1, 1);

        edge("terms: else it is a HOLE then, and he FALLS in (and goes no farther)");
        dueDay("1,2,2,2;w1", 1, 0, 0, 0, 2, 2, 2);
        dueDay("2,2,2,1;w1", 1, 0, 0, 1, 1, 1, 0);
        dueDay("3,2,3,3;c1", 1, 0, 0, 1, 0, 3, 3);
        dueDay("3,1,3,3;c1", 1, 0, 0, 1, 0, 3, 3);
        dueDay("3,3,0,3;c1", 1, 0, 0, 1, 1, 0, 3);
        dueDay("2,1,3,1;d1", 1, 0, 0, 0, 1, 3, 1);
        dueDay("2,2,2,2;t1", 1, 0, 0, 0, 2, 2, 2);

        edge("terms: a DUKE WEARS nothing off ARCH 1, but FALLS in where it is a HOLE");
        dueDay("3,0,3,1;d1", 1, 0, 0, 1, 0, 3, 1);
        dueDay("3,1,3,0;d1", 1, 0, 0, 1, 1, 1, 0);

        edge("terms: a DAY on which nobody comes is one all the same");
        RefusedStones x = Checks.built("9,9,9,9;w2");
        x.days(1);
        Checks.due("nobody falls", x.days(1), 0);
        Checks.dueCounts("nobody came", x, 1, 2, 0, 1, 0, 0, 32, 0, 2);
        Checks.due("nobody at all", new RefusedStones().days(40), 0);

        edge("9 days: how many FELL in in them, 1 and 40 at once");
        RefusedStones y = Checks.built("0,0,0,0;w1,w1,w1,w1,w1,w1");
        Checks.due("days(1)", y.days(1), 6);
        Checks.due("days(40)", y.days(40), 240);
        Checks.due("all", y.count(5), 246);
        RefusedStones z = Checks.built("40,40,40,40;w1");
        Checks.due("39 go over", z.days(39), 0);
        Checks.due("the 40th falls", z.days(1), 1);
    }

    private static void doneEdges() {
        edge("10 list: THE LIST as it was; NOT: it is so, at 0 and at 63, too");
        RefusedStones x = new RefusedStones();
        Checks.due("0 at first", x.list(0), -2);
        Checks.due("NOT leaves nothing to be undone", x.count(8), 0);
        Checks.due("to 63", x.list(63), 0);
        Checks.due("63", x.list(63), -2);
        Checks.due("to 0", x.list(0), 63);
        Checks.due("0", x.list(0), -2);
        Checks.due("two may be undone", x.count(8), 2);

        edge("11 mend: 40 at most; NOT: it has 40");
        RefusedStones y = Checks.built("0,39,40,1");
        Checks.due("from 0 to 40", y.mend(0, 40), 40);
        Checks.due("from 39 to 40", y.mend(1, 1), 40);
        Checks.due("beyond", y.mend(3, 40), 40);
        String before = State.of(mended());
        RefusedStones z = mended();
        Checks.due("it has 40", z.mend(2, 1), -2);
        Checks.due("it has 40", z.mend(2, 40), -2);
        Checks.due("NOT changes nothing", State.of(z).equals(before));
        Checks.due("38 and 1", Checks.built("38,0,0,0").mend(0, 1), 39);

        edge("12 flood: takes n STONES of each ARCH (0 at least): HOLES then");
        RefusedStones u = Checks.built("0,1,39,40");
        Checks.due("flood(1)", u.flood(1), 0b0011);
        Checks.dueStones("flood(1)", u, 0, 0, 38, 39);
        Checks.due("flood(38)", u.flood(38), 0b0111);
        Checks.dueStones("flood(38)", u, 0, 0, 0, 1);
        Checks.due("flood(40)", u.flood(40), 15);
        Checks.due("flood(40), of holes", u.flood(40), 15);
        Checks.due("each may be undone", u.count(8), 4);
        Checks.due("the greatest", Checks.built("40,40,40,40").flood(40), 15);
        Checks.due("no hole", Checks.built("40,40,40,40").flood(39), 0);

        edge("15 seed: what it was; 0 and the greatest number are as told");
        RefusedStones v = new RefusedStones();
        Checks.due("1 at first", v.seed(0), 1);
        Checks.due("0", v.seed(Integer.MAX_VALUE), 0);
        Checks.due("31 bits", v.seed(0), Integer.MAX_VALUE);
        Checks.due("nothing to be undone", v.undo(), -4);
    }

    private static RefusedStones mended() {
        RefusedStones x = Checks.built("9,9,40,9");
        x.list(5);
        return x;
    }

    private static void undone() {
        edge("14 undo: NONE: none is known; it changes nothing");
        RefusedStones x = Checks.built("7,8,9,9!a;w1");
        Checks.due("undo()", x.undo(), -4);
        Checks.dueCounts("behind it", x, 1, 0, 1, 0, 0, 0, 33, 0, 0);

        edge("14 undo: 8 are known, older ones lost");
        RefusedStones y = new RefusedStones();
        for (int k = 1; k <= 8; k++) {
            y.list(k);
            Checks.due("known", y.count(8), k);
        }
        y.list(9);
        Checks.due("8, behind the ninth", y.count(8), 8);
        for (int k = 7; k >= 0; k--) {
            Checks.due("how many more may be", y.undo(), k);
            Checks.due("the list", y.count(2), k + 1);
        }
        Checks.due("the first one is lost", y.undo(), -4);
        Checks.due("the list stays", y.count(2), 1);

        edge("14 undo: what was undone makes room for others, again and again");
        RefusedStones z = new RefusedStones();
        for (int round = 0; round < 5; round++) {
            z.days(11);
            Checks.due("8", z.count(8), 8);
            for (int k = 0; k < 5; k++) {
                z.undo();
            }
            z.days(2);
            Checks.due("3 and 2", z.count(8), 5);
        }
        Checks.due("40 days stand", z.count(1), 40);
        for (int k = 4; k >= 0; k--) {
            Checks.due("undo()", z.undo(), k);
        }
        Checks.due("5 days less", z.count(1), 35);
        Checks.due("none is known", z.undo(), -4);

        undoneBySort();

        edge("terms: a BRIDGE, a new TRAVELLER leave nothing to be UNDONE; a FAULT, FULL do not");
        RefusedStones v = Checks.built("9,9,9,9;w1,w1,w1,w1,w1");
        v.days(3);
        Checks.due("a fault", Checks.bridge(v, "9,9,9,41"), -26);
        Checks.due("a bad one", v.traveller(0, 0, 10), -1);
        Checks.due("3 are known", v.count(8), 3);
        Checks.due("the sixth", v.traveller(0, 0, 1), 5);
        Checks.due("none is known", v.count(8), 0);
        Checks.due("none is known", v.undo(), -4);
        Checks.due("the day stays", v.count(1), 3);
        v.days(3);
        Checks.due("full", v.traveller(0, 0, 1), -3);
        Checks.due("3 are known", v.undo(), 2);
        Checks.bridge(v, "9,9,9,9");
        Checks.due("none is known", v.undo(), -4);
    }

    private static void undoneBySort() {
        edge("terms: UNDONE: STONES, THE LIST, all that is counted, the DAY, THE DRAW are as ahead of it");
        String before = State.of(halfway());
        RefusedStones[] done = new RefusedStones[6];
        for (int k = 0; k < done.length; k++) {
            done[k] = halfway();
        }
        done[0].days(1);
        done[1].list(63);
        done[2].mend(3, 40);
        done[3].flood(40);
        done[4].drift(1);
        done[5].seed(9);
        done[5].days(1);
        done[5].seed(1000);
        for (int k = 0; k < 5; k++) {
            Checks.due("undone " + k, done[k].undo(), 2);
            Checks.due("as ahead of it " + k, State.of(done[k]).equals(before));
        }
        Checks.due("the day alone", done[5].undo(), 2);
        Checks.due("whatever was told since", done[5].seed(77), 9);
        Checks.due("as ahead of it, but for the draw", State.of(done[5]).equals(before));

        edge("9 days, 13 drift: each by itself may be UNDONE");
        RefusedStones x = halfway();
        x.days(2);
        x.drift(3);
        Checks.due("two and five", x.count(8), 7);
        for (int k = 6; k >= 2; k--) {
            Checks.due("undo()", x.undo(), k);
            Checks.due("one day less", x.count(1), k - 1);
        }
        Checks.due("as it was", State.of(x).equals(before));
    }

    /** Two are known; one counted of each. */
    private static RefusedStones halfway() {
        RefusedStones x = Checks.built("5,6,7,2!b;w1a,c1b,c1");
        x.days(1);
        x.list(4);
        x.seed(77);
        return x;
    }

    /** What THE DRAW must be, so that it becomes this by the next DAY of a DRIFT. */
    private static int drawAhead(long next) {
        return (int) (((next - 12345L) * BACK) & 0x7fffffffL);
    }

    private static void dueDrawn(long next, int listed) {
        RefusedStones x = new RefusedStones();
        x.seed(drawAhead(next));
        Checks.due("drift(1) to " + next, x.drift(1), 0);
        Checks.due("the list by " + next, x.count(2), listed);
        Checks.due("the draw", x.seed(0), next);
    }

    private static void drawn() {
        edge("13 drift: the lowest 31 bits, by the least and the greatest draw");
        dueDrawn(0, 1);
        dueDrawn(Integer.MAX_VALUE, 0);
        dueDrawn(1L << 30, 0);
        RefusedStones x = new RefusedStones();
        x.seed(0);
        x.drift(1);
        Checks.due("0 becomes 12345", x.seed(Integer.MAX_VALUE), 12345);
        x.drift(1);
        Checks.due("31 bits of ones", x.seed(0), (Integer.MAX_VALUE * 1103515245L + 12345L) & 0x7fffffffL);

        edge("13 drift: if it by 65536 (cut), left over by 5, is 0");
        dueDrawn(65535, 1 << 1);
        dueDrawn(65536, 0);
        dueDrawn(5 * 65536 - 1, 0);
        dueDrawn(5 * 65536, 1 << 4);
        dueDrawn(6 * 65536 - 1, 1 << 5);
        dueDrawn(6 * 65536, 0);
        dueDrawn(32765L * 65536, 1 << (32765 * 512 % 6));
        dueDrawn(32765L * 65536 - 1, 0);

        edge("13 drift: the LOOK that is it by 128 (cut), left over by 6");
        dueDrawn(127, 1);
        dueDrawn(128, 1 << 1);
        dueDrawn(255, 1 << 1);
        dueDrawn(256, 1 << 2);
        dueDrawn(5 * 128, 1 << 5);
        dueDrawn(6 * 128 - 1, 1 << 5);
        dueDrawn(6 * 128, 1);

        edge("13 drift: is put on THE LIST, or, if it is on it, taken off; ahead of its DAY");
        RefusedStones y = Checks.built("9,9,9,9!af;w1b");
        y.seed(drawAhead(128));
        Checks.due("drift(1)", y.drift(1), 0);
        Checks.due("put on it", y.count(2), 0b100011);
        Checks.due("refused on this very day", y.count(4), 1);
        y.seed(drawAhead(5 * 128));
        y.drift(1);
        Checks.due("taken off", y.count(2), 0b000011);
        y.seed(drawAhead(128));
        y.drift(1);
        Checks.due("taken off", y.count(2), 0b000001);
        Checks.due("over on this very day", y.count(3), 1);
        Checks.due("undo()", y.undo(), 2);
        Checks.due("with its look", y.count(2), 0b000011);
        Checks.due("and its draw", y.seed(0), drawAhead(128));

        edge("13 drift: how many FELL in in them, 1 and 40 at once; days and the foretold draw nothing");
        RefusedStones z = Checks.built("0,0,0,0;w1,w1,w1,w1,w1,w1");
        Checks.due("drift(1)", z.drift(1), 6);
        Checks.due("drift(40)", z.drift(40), 240);
        Checks.due("8 are known", z.count(8), 8);
        int draw = z.seed(0);
        z.seed(draw);
        z.days(40);
        z.ahead(0, 60);
        z.hole();
        Checks.due("the draw stays", z.seed(0), draw);
    }

    private static RefusedStones onDay(int day, String text) {
        RefusedStones x = Checks.built(text);
        for (int k = 0; k < day / 40; k++) {
            x.days(40);
        }
        if (day % 40 != 0) {
            x.days(day % 40);
        }
        Checks.due("the day", x.count(1), day);
        return x;
    }

    private static void lastDay() {
        edge("9 days, FULL: the DAY would be above 9999");
        RefusedStones x = onDay(9960, "9,9,9,9");
        Checks.due("to 10000", x.days(40), -3);
        Checks.due("changes nothing", x.count(1), 9960);
        Checks.due("to 9999", x.days(39), 0);
        Checks.due("to 10000", x.days(1), -3);
        Checks.due("changes nothing", x.count(1), 9999);
        Checks.due("8 are known", x.undo(), 7);
        Checks.due("to 10000", x.days(2), -3);
        Checks.due("to 9999", x.days(1), 0);

        edge("13 drift, FULL: likewise; no draw is made");
        RefusedStones y = onDay(9998, "0,0,0,0;w1");
        y.seed(123);
        String before = State.of(y);
        RefusedStones z = onDay(9998, "0,0,0,0;w1");
        z.seed(123);
        Checks.due("to 10000", z.drift(2), -3);
        Checks.due("to 10038", z.drift(40), -3);
        Checks.due("to 10000", z.days(2), -3);
        Checks.due("changes nothing", State.of(z).equals(before));
        RefusedStones u = onDay(9998, "0,0,0,0;w1");
        Checks.due("to 9999", u.drift(1), 1);
        Checks.due("to 10000", u.drift(1), -3);

        edge("terms: what is so on DAY 9999, and is foretold behind it");
        RefusedStones v = onDay(9999, "40,40,40,40!b;d9b,t9b,b1b,w8b");
        Checks.due("a multiple of 9", v.of(0, 3), 1);
        Checks.due("no multiple of 8", v.of(3, 3), 0);
        Checks.due("odd", v.of(2, 5), 0);
        Checks.due("left over by 4: 3", v.wears(1, 3), 2);
        Checks.due("left over by 4: 3", v.wears(1, 0), 1);
        Checks.due("refused by now", v.then(0, 1), v.count(4));
        Checks.due("60 days more", v.then(60, 1) - v.count(4), 60 + 7 + 7 + 8);
        Checks.due("a bridge", Checks.bridge(v, "1,1,1,1"), 0);
        Checks.due("day 0 again", v.count(1), 0);
        Checks.due("days again", v.days(40), 0);
    }

    private static void foretold() {
        edge("16 ahead, 17 then: behind 0 DAYS it is as now");
        RefusedStones x = Checks.built("5,6,7,2!b;w1a,c1b,c1");
        x.days(1);
        int[] now = {x.count(3), x.count(4), x.count(5)};
        for (int k = 0; k < 4; k++) {
            Checks.due("ahead(" + k + ", 0)", x.ahead(k, 0), x.stones(k));
        }
        for (int what = 0; what < 3; what++) {
            Checks.due("then(0, " + what + ")", x.then(0, what), now[what]);
        }

        edge("16 ahead, 17 then: behind 1, 59 and 60 DAYS");
        RefusedStones y = Checks.built("40,40,40,40;w1,w9a,b2abc");
        RefusedStones z = Checks.built("40,40,40,40;w1,w9a,b2abc");
        int[] stops = {1, 58, 1};
        int day = 0;
        for (int stop : stops) {
            day += stop;
            for (int left = stop; left > 0; left -= Math.min(40, left)) {
                z.days(Math.min(40, left));
            }
            Checks.due("the day", z.count(1), day);
            for (int arch = 0; arch < 4; arch++) {
                Checks.due("ahead(" + arch + ", " + day + ")", y.ahead(arch, day), z.stones(arch));
            }
            for (int what = 0; what < 3; what++) {
                Checks.due("then(" + day + ", " + what + ")", y.then(day, what), z.count(3 + what));
            }
        }
        Checks.due("some were over", y.then(60, 0) > 0);
        Checks.due("some fell", y.then(60, 2) > 0);

        edge("18 hole: 0, if there is one now; 60 at last; NONE");
        Checks.due("now", Checks.built("40,40,40,0").hole(), 0);
        Checks.due("behind 1", Checks.built("40,40,40,1;w1").hole(), 1);
        RefusedStones late = Checks.built("40,31,40,40;w2");
        late.days(1);
        Checks.due("behind 60", late.hole(), 60);
        Checks.due("there it is", late.ahead(1, 60), 0);
        Checks.due("not ahead of it", late.ahead(1, 59), 1);
        RefusedStones later = Checks.built("40,32,40,40;w2");
        later.days(3);
        Checks.due("behind 61 is none", Checks.built("40,40,40,40;w2").hole(), -4);
        Checks.due("behind 60 from day 3 on", later.hole(), 60);
        RefusedStones latest = Checks.built("40,32,40,40;w2");
        latest.days(2);
        Checks.due("behind 61 from day 2 on is none", latest.hole(), -4);

        edge("18 hole: one that is filled by the end of the DAY is none");
        Checks.due("filled by who is refused", Checks.built("1,9,9,9!a;w1,w1a").hole(), -4);
        Checks.due("not filled", Checks.built("1,9,9,9!a;w1a,w1,w1").hole(), 1);

        edge("23 stands: 0, if there is a HOLE now; 60 at last; NONE; were it THE LIST");
        Checks.due("now", Checks.built("0,9,9,9;w1a").stands(1), 0);
        RefusedStones s = Checks.built("40,30,40,40!c;w2b");
        Checks.due("he is refused by b", s.stands(2), -4);
        Checks.due("and by all", s.stands(63), -4);
        Checks.due("but not by all the others", s.stands(61), 59);
        Checks.due("nor by none", s.stands(0), 59);
        Checks.due("the list stays", s.count(2), 4);
        RefusedStones t = Checks.built("40,31,40,40!b;w2");
        t.days(1);
        Checks.due("behind 60", t.stands(0), 60);
        RefusedStones u = Checks.built("40,32,40,40!b;w2");
        u.days(2);
        Checks.due("behind 61 is none", u.stands(0), -4);
    }

    private static void firsts() {
        edge("19 first: 1, if he FALLS in in the next DAY; 60 at last; NONE");
        Checks.due("the next day", Checks.built("9,9,9,0;w1").first(0), 1);
        RefusedStones x = Checks.built("40,31,40,40;w2");
        x.days(1);
        Checks.due("the 60th", x.first(0), 60);
        RefusedStones y = Checks.built("40,32,40,40;w2");
        y.days(2);
        Checks.due("the 61st is none", y.first(0), -4);

        edge("19 first: he alone, be it that others FALL");
        RefusedStones z = Checks.built("1,9,9,9!a;w1,w1a,d1,w3,w1,w1");
        Checks.due("the first", z.first(0), 1);
        Checks.due("who is refused", z.first(1), -4);
        Checks.due("the fourth", z.first(3), 1);
        Checks.due("the last", z.first(5), 1);
        Checks.due("nothing is counted", z.count(5), 0);
        z.days(1);
        Checks.due("who comes by the third day", z.first(3), 3);
    }

    private static void chosen() {
        edge("20 wise: fewest FALL in, of like ones most are OVER, of like ones the least set");
        Checks.due("the least set of all", Checks.built("9,9,9,9!abcdef").wise(1, 0), 0);
        Checks.due("the greatest: all must be refused",
            Checks.built("0,0,0,0;w1a,w1b,w1c,w1d,w1e,w1f").wise(1, 0), 63);
        RefusedStones x = Checks.built("0,9,9,9;w1a,w1b");
        Checks.due("both are refused ahead of most over", x.wise(1, 0), 3);
        Checks.due("fall", x.wise(1, 1), 0);
        Checks.due("over", x.wise(1, 2), 0);
        // By none the carter falls; by a he alone is over, by b the two others are.
        RefusedStones y = Checks.built("3,9,9,9;w1a,w1a,c1b");
        Checks.due("most are over ahead of the least set", y.wise(1, 0), 2);
        Checks.due("fall", y.wise(1, 1), 0);
        Checks.due("over", y.wise(1, 2), 2);
        Checks.due("of like ones the least set", Checks.built("2,9,9,9;w1a,c1b").wise(1, 0), 1);

        edge("20 wise: for 1 and for 40 DAYS; in them alone");
        RefusedStones z = Checks.built("40,40,40,40;w1a");
        Checks.due("1 day: none", z.wise(1, 0), 0);
        Checks.due("1 day: over", z.wise(1, 2), 1);
        Checks.due("39 days: none", z.wise(39, 0), 0);
        Checks.due("40 days: he would fall", z.wise(40, 0), 1);
        Checks.due("40 days: over", z.wise(40, 2), 0);
        z.days(39);
        Checks.due("what was counted is not told", z.wise(1, 2), 0);
        z.days(3);
        Checks.due("what was counted is not told", z.wise(1, 1), 0);

        edge("21 more: of all LOOKS that are not on THE LIST; of like ones the first; none: all are");
        Checks.due("the first of all", Checks.built("9,9,9,9").more(1), 0);
        Checks.due("the first that is not on it", Checks.built("9,9,9,9!abcde").more(1), 5);
        Checks.due("the only one, but for its worth", Checks.built("9,9,9,9!bcdef;w1a").more(40), 0);
        Checks.due("all are", Checks.built("9,9,9,9!abcdef").more(40), -4);
        Checks.due("fewest fall", Checks.built("2,9,9,9;w1e,w1f").more(1), 4);
        Checks.due("most over", Checks.built("9,9,9,9;w1abcde").more(8), 5);
        Checks.due("he would fall on the ninth day", Checks.built("9,9,9,9;w1abcde").more(9), 0);

        edge("22 less: of those that are on it; none");
        Checks.due("none", Checks.built("9,9,9,9").less(40), -4);
        Checks.due("the first of all", Checks.built("9,9,9,9!abcdef").less(1), 0);
        Checks.due("the only one", Checks.built("9,9,9,9!f").less(1), 5);
        Checks.due("the only one, but for its worth", Checks.built("0,9,9,9!a;w1a").less(40), 0);
        Checks.due("fewest fall", Checks.built("0,9,9,9!abc;w1a,w1b").less(1), 2);
        Checks.due("most over", Checks.built("9,9,9,9!ab;w1b").less(1), 1);
    }

    private static void bears() {
        edge("24 bears: 40 at most, 0 at least; NONE");
        Checks.due("nobody comes: 40", Checks.built("0,0,0,0").bears(40), 40);
        Checks.due("all are refused: 40", Checks.built("9,9,9,9!a;t1a").bears(40), 40);
        Checks.due("39 of 40 and 2 left", Checks.built("40,40,40,40;w1").bears(1), 38);
        Checks.due("one more than he wears", Checks.built("2,2,2,2;w1").bears(1), 0);
        Checks.due("no more", Checks.built("9,1,9,9;w1").bears(1), -4);
        Checks.due("40 days", Checks.built("40,40,40,40;w2").bears(40), 19);
        Checks.due("41 stones would be due", Checks.built("40,40,40,40;w1").bears(40), -4);
        Checks.due("39 days", Checks.built("40,40,40,40;w1").bears(39), 0);
        Checks.due("there may be a hole", Checks.built("9,9,9,0!a;w9a").bears(40), 40);
        Checks.due("not on this day", Checks.built("3,9,9,9!a;w1a,w9").bears(1), 2);
    }

    private static void dueChance(String text, int c, int above, int below) {
        RefusedStones x = Checks.built(text);
        Checks.due(text + ": floods(" + c + ", 0)", x.floods(c, 0), above);
        Checks.due(text + ": floods(" + c + ", 1)", x.floods(c, 1), below);
    }

    private static void floods() {
        edge("25 floods: by 0 of 10, by 10 of 10; a fraction in lowest terms, 0 by 1 and 1 by 1, too");
        dueChance("7,7,7,7;w1", 0, 1, 1);
        dueChance("7,7,7,7;w1", 10, 1, 1);
        dueChance("6,7,7,7;w1", 0, 1, 1);
        dueChance("6,7,7,7;w1", 10, 0, 1);
        dueChance("1,7,7,7;w1", 0, 0, 1);
        dueChance("1,7,7,7;w1", 7, 0, 1);
        dueChance("6,7,7,7;w1", 5, 1, 2);
        dueChance("6,6,6,6;w1", 1, 6561, 10000);
        dueChance("6,6,6,6;w1", 9, 1, 10000);
        dueChance("6,6,6,6;w1", 8, 1, 625);
        dueChance("7,7,7,6;w1", 6, 2, 5);

        edge("25 floods: each ARCH loses 5 STONES (0 at least), apart");
        dueChance("0,1,4,5!a;w1a", 5, 1, 1);
        dueChance("40,5,40,40;d1", 10, 0, 1);
        dueChance("40,6,40,40;d1", 10, 1, 1);
        // Stones 2 2 2 1 by a duke that is refused, if all are gone; a walker falls then by arch 3.
        dueChance("5,5,5,5!a;d1a,w1", 10, 0, 1);
        dueChance("5,5,5,5!a;d1a,c1a,w1", 10, 1, 1);

        edge("25 floods: in the next DAY alone");
        dueChance("7,7,7,7;w1,w2,w2a", 10, 0, 1);
        dueChance("7,7,7,7;w1", 3, 1, 1);
        RefusedStones x = Checks.built("7,7,7,7;w2");
        x.days(1);
        Checks.due("nobody comes", x.floods(10, 0), 1);
        x.days(1);
        Checks.due("he does", x.floods(10, 0), 0);
        Checks.due("of 1", x.floods(10, 1), 1);
    }

    private static void images() {
        edge("27 restore: NONE: there is none; it changes nothing");
        String before = State.of(sixAndNoImage());
        RefusedStones x = sixAndNoImage();
        Checks.due("restore()", x.restore(), -4);
        Checks.due("changes nothing", State.of(x).equals(before));

        edge("26 image, 27 restore: all but SHEETS, THE TAPE; what may be UNDONE, too; again and again");
        String then = State.of(sixAndNoImage());
        RefusedStones y = sixAndNoImage();
        Checks.due("image()", y.image(), 1);
        for (int round = 0; round < 3; round++) {
            y.seed(1);
            y.drift(9);
            y.list(62);
            Checks.due("a bridge", Checks.bridge(y, "1,2,3,4;w1"), 1);
            y.days(3);
            Checks.due("restore()", y.restore(), 1);
        }
        Checks.due("as it was then", withoutImage(State.of(y)).equals(withoutImage(then)));

        edge("26 image: another one takes its place; 8 are known in it, too");
        RefusedStones z = new RefusedStones();
        z.image();
        for (int k = 1; k <= 9; k++) {
            z.list(k);
        }
        Checks.due("image()", z.image(), 1);
        z.traveller(0, 0, 1);
        Checks.due("none is known", z.undo(), -4);
        z.restore();
        Checks.due("nobody", z.count(0), 0);
        for (int k = 7; k >= 0; k--) {
            Checks.due("undo()", z.undo(), k);
        }
        Checks.due("the first is lost", z.count(2), 1);
        z.restore();
        Checks.due("the image was not undone", z.count(2), 9);

        edge("26 image: SHEETS, THE TAPE stay as they are, whatever is restored");
        RefusedStones u = new RefusedStones();
        u.type('1');
        u.sheet(0, 0, 3);
        u.image();
        u.type('2');
        u.drop(0);
        u.sheet(1, 1, 5);
        u.restore();
        Checks.due("the third letter", u.type('3'), 3);
        Checks.due("sheet 0", u.drop(0), -11);
        Checks.due("sheet 1", u.drop(1), 5);
    }

    private static RefusedStones sixAndNoImage() {
        RefusedStones x = Checks.built("9,9,9,9!b;w1,c2b,b3,d4,t5,w6");
        x.days(3);
        x.list(5);
        x.seed(99);
        x.mend(2, 4);
        return x;
    }

    /** What is told ahead of the image: the rest tells what comes by restore. */
    private static String withoutImage(String state) {
        int at = state.indexOf("restore");
        return at < 0 ? state : state.substring(0, at);
    }
}
