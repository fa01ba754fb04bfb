/**
 * The sentences of promises 1 to 15 and their terms that name an edge (the least, the greatest, one beyond, empty,
 * full, begun anew, refused), each by itself. What is no number as told stands in NumbersTest, the TEXT in TextTest.
 */
final class DoneEdgesTest {
    /** By 31 bits, a number times 1103515245 and times this is the number again. */
    private static final long BACK = inverse(1103515245L);

    private DoneEdgesTest() {
    }

    public static void main(String[] args) {
        arches();
        travellers();
        kinds();
        dayRefused();
        dayOver();
        doneEdges();
        undone();
        drawn();
        lastDay();
        Checks.end();
    }

    /** 1 where 31 bits are all: the number times its inverse. */
    private static long inverse(long number) {
        long back = 1;
        for (int k = 0; k < 6; k++) {
            back *= 2 - number * back;
        }
        return back & 0x7fffffffL;
    }

    private static void dueDay(String text, int fell, int over, int refused, int... heaps) {
        RefusedStones x = Checks.built(text);
        Checks.due(text + ": days(1)", x.days(1), fell);
        Checks.dueStones(text, x, heaps);
        Checks.dueCounts(text, x, x.count(0), 1, x.count(2), over, refused, fell);
    }

    private static void arches() {
        Checks.promise("1 a new object: STONES 10 at first, THE LIST 0, DAY 0, nothing counted, THE DRAW 1");
        RefusedStones x = new RefusedStones();
        Checks.dueStones("new", x, 10, 10, 10, 10);
        Checks.dueCounts("new", x, 0, 0, 0, 0, 0, 0, 40, 0, 0);
        Checks.due("the draw", x.seed(1), 1);

        Checks.promise("1 a new object: nobody, no image, nothing undone, an empty tape, sheets that hold nothing");
        Checks.due("nobody", x.of(0, 0), -1);
        Checks.due("no image", x.restore(), -4);
        Checks.due("nothing to be undone", x.undo(), -4);
        for (int s = 0; s < 4; s++) {
            Checks.due("sheet " + s, x.drop(s), -11);
        }
        Checks.due("the first letter", x.type('1'), 1);

        Checks.promise("terms: STONES 0 .. 40, one without is a HOLE");
        Checks.dueStones("least and greatest", Checks.built("0,40,0,40"), 0, 40, 0, 40);
        Checks.due("two holes", Checks.built("0,40,0,40").count(7), 0b0101);
        Checks.due("two others", Checks.built("40,0,40,0").count(7), 0b1010);
        Checks.due("one stone is no hole", Checks.built("1,1,1,1").count(7), 0);
        Checks.due("all holes", Checks.built("0,0,0,0").count(7), 15);
        Checks.due("no stones together", Checks.built("0,0,0,0").count(6), 0);
        Checks.due("all stones together", Checks.built("40,40,40,40").count(6), 160);
    }

    private static void travellers() {
        Checks.promise("2 traveller: the number, 0 .. 5, as they come; FULL: 6");
        RefusedStones x = new RefusedStones();
        for (int t = 0; t < 6; t++) {
            Checks.due("how many ahead of it", x.count(0), t);
            Checks.due("no such one yet", x.of(t, 0), -1);
            Checks.due("the number", x.traveller(t % 5, t, 9), t);
        }
        String before = State.of(sixAndMore());
        RefusedStones y = sixAndMore();
        Checks.due("the seventh", y.traveller(1, 1, 1), -3);
        Checks.due("the seventh again", y.traveller(1, 1, 1), -3);
        Checks.due("FULL changes nothing", State.of(y).equals(before));
        RefusedStones z = Checks.built("1,1,1,1;w1,w1,w1,w1,w1,w1");
        Checks.due("six by a bridge", z.traveller(0, 0, 1), -3);
        Checks.due("one by a bridge", Checks.built("1,1,1,1;w1").traveller(0, 0, 1), 1);
        Checks.bridge(z, "1,1,1,1");
        Checks.due("nobody, again", z.traveller(0, 0, 1), 0);

        Checks.promise("2 traveller: of the least and the greatest KIND, LOOKS, EVERY");
        RefusedStones u = new RefusedStones();
        u.traveller(0, 0, 1);
        u.traveller(4, 63, 9);
        int[][] want = {{0, 0, 1}, {4, 63, 9}};
        for (int t = 0; t < 2; t++) {
            for (int what = 0; what < 3; what++) {
                Checks.due("of(" + t + ", " + what + ")", u.of(t, what), want[t][what]);
            }
        }

        Checks.promise("terms: come on DAYS that are a multiple of EVERY (1 .. 9; on DAY 0, too)");
        RefusedStones v = Checks.built("40,40,40,40!a;w1a,w2a,w9a,w8a");
        int[] every = {1, 2, 9, 8};
        int refused = 0;
        for (int day = 0; day < 28; day++) {
            for (int t = 0; t < 4; t++) {
                Checks.due("day " + day + ", every " + every[t], v.of(t, 3), day % every[t] == 0 ? 1 : 0);
                refused += day % every[t] == 0 ? 1 : 0;
            }
            v.days(1);
            Checks.due("refused by day " + day, v.count(4), refused);
        }
    }

    private static RefusedStones sixAndMore() {
        RefusedStones x = Checks.built("9,9,9,9!b;w1,c2b,b3,d4,t5,w6");
        x.days(3);
        x.image();
        x.list(5);
        return x;
    }

    private static void kinds() {
        Checks.promise("3 of: BEGGAR GIVES nothing on DAYS of an odd number; THIEF 1 less (0 at least)");
        RefusedStones x = Checks.built("9,9,9,9;b9,t9,w9,c9,d9");
        int[][] gives = {{1, 0, 1, 2, 6}, {0, 0, 1, 2, 6}};
        for (int day = 0; day < 6; day++) {
            for (int t = 0; t < 5; t++) {
                Checks.due("day " + day + ", of(" + t + ", 5)", x.of(t, 5), gives[day % 2][t]);
            }
            x.days(1);
        }

        Checks.promise("3 of: whether he would be REFUSED, by no LOOK, by the first, by the last, by all");
        RefusedStones y = Checks.built("9,9,9,9;w1,w1a,w1f,w1abcdef,w1bcde");
        int[][] refused = {{0, 0, 0, 0, 0, 0}, {1, 0, 1, 0, 1, 0}, {32, 0, 0, 1, 1, 0}, {33, 0, 1, 1, 1, 0},
            {30, 0, 0, 0, 1, 1}, {63, 0, 1, 1, 1, 1}};
        for (int[] row : refused) {
            y.list(row[0]);
            for (int t = 0; t < 5; t++) {
                Checks.due("list " + row[0] + ", of(" + t + ", 4)", y.of(t, 4), row[1 + t]);
            }
        }
        RefusedStones away = Checks.built("9,9,9,9!a;w2a");
        away.days(1);
        Checks.due("he does not come", away.of(0, 3), 0);
        Checks.due("he would be refused", away.of(0, 4), 1);
        Checks.due("he would give", away.of(0, 5), 1);

        Checks.promise("4 wears: DUKE nothing off ARCHES that are not of an even number; THIEF by DAY, left over by 4");
        RefusedStones z = Checks.built("9,9,9,9;d9,t9");
        for (int day = 0; day < 9; day++) {
            for (int arch = 0; arch < 4; arch++) {
                Checks.due("day " + day + ", duke off " + arch, z.wears(0, arch), arch % 2 == 0 ? 2 : 0);
                Checks.due("day " + day + ", thief off " + arch, z.wears(1, arch), day % 4 == arch ? 2 : 1);
            }
            z.days(1);
        }
    }

    private static void dayRefused() {
        Checks.promise("terms: one by one, each into the ARCH that has least by then, of like ones the first");
        dueDay("0,0,0,0!a;d1a", 0, 0, 1, 2, 2, 1, 1);
        dueDay("3,2,1,0!a;d1a", 0, 0, 1, 3, 3, 3, 3);
        dueDay("3,3,3,2!a;c1a", 0, 0, 1, 4, 3, 3, 3);
        dueDay("9,9,9,0!a;d1a", 0, 0, 1, 9, 9, 9, 6);
        dueDay("9,0,9,0!a;w1a", 0, 0, 1, 9, 1, 9, 0);

        Checks.promise("terms: 40 at most; what is above is lost");
        dueDay("40,40,40,40!a;d1a", 0, 0, 1, 40, 40, 40, 40);
        dueDay("40,40,39,40!a;d1a", 0, 0, 1, 40, 40, 40, 40);
        dueDay("39,39,39,39!a;d1a", 0, 0, 1, 40, 40, 40, 40);
        dueDay("40,34,40,40!a;d1a", 0, 0, 1, 40, 40, 40, 40);
        dueDay("40,33,40,40!a;d1a", 0, 0, 1, 40, 39, 40, 40);

        Checks.promise("terms: who GIVES nothing is REFUSED all the same");
        dueDay("5,5,5,5!a;t1a", 0, 0, 1, 5, 5, 5, 5);
        RefusedStones odd = Checks.built("5,5,5,5!a;b1a");
        odd.days(2);
        Checks.dueStones("the beggar gave on day 0 alone", odd, 6, 5, 5, 5);
        Checks.due("refused twice", odd.count(4), 2);

        Checks.promise("terms: one of whose LOOKS some are on THE LIST is REFUSED; one of no LOOKS never");
        dueDay("9,9,9,9!abcdef;w1", 0, 1, 0, 8, 8, 8, 8);
        dueDay("9,9,9,9!f;w1ef", 0, 0, 1, 10, 9, 9, 9);
        dueDay("9,9,9,9!f;w1abcde", 0, 1, 0, 8, 8, 8, 8);
        dueDay("9,9,9,9;w1abcdef", 0, 1, 0, 8, 8, 8, 8);

        Checks.promise("terms: those who come on it, rising");
        dueDay("1,9,9,9!a;w1a,w1", 0, 1, 1, 1, 8, 8, 8);
        dueDay("1,9,9,9!a;w1,w1a", 1, 0, 1, 1, 9, 9, 9);
        dueDay("3,9,9,9;w1,c1", 1, 1, 0, 0, 8, 8, 8);
        dueDay("3,9,9,9;c1,w1", 1, 1, 0, 0, 7, 7, 7);
    }

    private static void dayOver() {
        Checks.promise("terms: if it has more STONES than he WEARS off it, these are gone");
        dueDay("2,2,2,2;w1", 0, 1, 0, 1, 1, 1, 1);
        dueDay("3,3,3,3;c1", 0, 1, 0, 1, 1, 1, 1);
        dueDay("2,2,2,2;b1", 0, 1, 0, 1, 1, 1, 1);
        dueDay("3,1,3,1;d1", 0, 1, 0, 1, 1, 1, 1);
        dueDay("3,2,2,2;t1", 0, 1, 0, 1, 1, 1, 1);

        Checks.promise("terms: else it is a HOLE then, and he FALLS in (and goes no farther)");
        dueDay("1,2,2,2;w1", 1, 0, 0, 0, 2, 2, 2);
        dueDay("2,2,2,1;w1", 1, 0, 0, 1, 1, 1, 0);
        dueDay("3,2,3,3;c1", 1, 0, 0, 1, 0, 3, 3);
        dueDay("3,1,3,3;c1", 1, 0, 0, 1, 0, 3, 3);
        dueDay("3,3,0,3;c1", 1, 0, 0, 1, 1, 0, 3);
        dueDay("2,1,3,1;d1", 1, 0, 0, 0, 1, 3, 1);
        dueDay("2,2,2,2;t1", 1, 0, 0, 0, 2, 2, 2);

        Checks.promise("terms: a DUKE WEARS nothing off ARCH 1, but FALLS in where it is a HOLE");
        dueDay("3,0,3,1;d1", 1, 0, 0, 1, 0, 3, 1);
        dueDay("3,1,3,0;d1", 1, 0, 0, 1, 1, 1, 0);

        Checks.promise("terms: a DAY on which nobody comes is one all the same");
        RefusedStones x = Checks.built("9,9,9,9;w2");
        x.days(1);
        Checks.due("nobody falls", x.days(1), 0);
        Checks.dueCounts("nobody came", x, 1, 2, 0, 1, 0, 0, 32, 0, 2);
        Checks.due("nobody at all", new RefusedStones().days(40), 0);

        Checks.promise("9 days: how many FELL in in them, 1 and 40 at once");
        RefusedStones y = Checks.built("0,0,0,0;w1,w1,w1,w1,w1,w1");
        Checks.due("days(1)", y.days(1), 6);
        Checks.due("days(40)", y.days(40), 240);
        Checks.due("all", y.count(5), 246);
        RefusedStones z = Checks.built("40,40,40,40;w1");
        Checks.due("39 go over", z.days(39), 0);
        Checks.due("the 40th falls", z.days(1), 1);
    }

    private static void doneEdges() {
        Checks.promise("10 list: THE LIST as it was; NOT: it is so, at 0 and at 63, too");
        RefusedStones x = new RefusedStones();
        Checks.due("0 at first", x.list(0), -2);
        Checks.due("NOT leaves nothing to be undone", x.count(8), 0);
        Checks.due("to 63", x.list(63), 0);
        Checks.due("63", x.list(63), -2);
        Checks.due("to 0", x.list(0), 63);
        Checks.due("0", x.list(0), -2);
        Checks.due("two may be undone", x.count(8), 2);

        Checks.promise("11 mend: 40 at most; NOT: it has 40");
        RefusedStones y = Checks.built("0,39,40,1");
        Checks.due("from 0 to 40", y.mend(0, 40), 40);
        Checks.due("from 39 to 40", y.mend(1, 1), 40);
        Checks.due("beyond", y.mend(3, 40), 40);
        String before = State.of(mended());
        RefusedStones z = mended();
        Checks.due("it has 40", z.mend(2, 1), -2);
        Checks.due("it has 40", z.mend(2, 40), -2);
        Checks.due("NOT changes nothing", State.of(z).equals(before));
        Checks.due("38 and 1", Checks.built("38,0,0,0").mend(0, 1), 39);

        Checks.promise("12 flood: takes n STONES of each ARCH (0 at least): HOLES then");
        RefusedStones u = Checks.built("0,1,39,40");
        Checks.due("flood(1)", u.flood(1), 0b0011);
        Checks.dueStones("flood(1)", u, 0, 0, 38, 39);
        Checks.due("flood(38)", u.flood(38), 0b0111);
        Checks.dueStones("flood(38)", u, 0, 0, 0, 1);
        Checks.due("flood(40)", u.flood(40), 15);
        Checks.due("flood(40), of holes", u.flood(40), 15);
        Checks.due("each may be undone", u.count(8), 4);
        Checks.due("the greatest", Checks.built("40,40,40,40").flood(40), 15);
        Checks.due("no hole", Checks.built("40,40,40,40").flood(39), 0);

        Checks.promise("15 seed: what it was; 0 and the greatest number are as told");
        RefusedStones v = new RefusedStones();
        Checks.due("1 at first", v.seed(0), 1);
        Checks.due("0", v.seed(Integer.MAX_VALUE), 0);
        Checks.due("31 bits", v.seed(0), Integer.MAX_VALUE);
        Checks.due("nothing to be undone", v.undo(), -4);
    }

    private static RefusedStones mended() {
        RefusedStones x = Checks.built("9,9,40,9");
        x.list(5);
        return x;
    }

    private static void undone() {
        Checks.promise("14 undo: NONE: none is known; it changes nothing");
        RefusedStones x = Checks.built("7,8,9,9!a;w1");
        Checks.due("undo()", x.undo(), -4);
        Checks.dueCounts("behind it", x, 1, 0, 1, 0, 0, 0, 33, 0, 0);

        Checks.promise("14 undo: 8 are known, older ones lost");
        RefusedStones y = new RefusedStones();
        for (int k = 1; k <= 8; k++) {
            y.list(k);
            Checks.due("known", y.count(8), k);
        }
        y.list(9);
        Checks.due("8, behind the ninth", y.count(8), 8);
        for (int k = 7; k >= 0; k--) {
            Checks.due("how many more may be", y.undo(), k);
            Checks.due("the list", y.count(2), k + 1);
        }
        Checks.due("the first one is lost", y.undo(), -4);
        Checks.due("the list stays", y.count(2), 1);

        Checks.promise("14 undo: what was undone makes room for others, again and again");
        RefusedStones z = new RefusedStones();
        for (int round = 0; round < 5; round++) {
            z.days(11);
            Checks.due("8", z.count(8), 8);
            for (int k = 0; k < 5; k++) {
                z.undo();
            }
            z.days(2);
            Checks.due("3 and 2", z.count(8), 5);
        }
        Checks.due("40 days stand", z.count(1), 40);
        for (int k = 4; k >= 0; k--) {
            Checks.due("undo()", z.undo(), k);
        }
        Checks.due("5 days less", z.count(1), 35);
        Checks.due("none is known", z.undo(), -4);

        undoneBySort();

        Checks.promise("terms: a BRIDGE, a new TRAVELLER leave nothing to be UNDONE; a FAULT, FULL do not");
        RefusedStones v = Checks.built("9,9,9,9;w1,w1,w1,w1,w1");
        v.days(3);
        Checks.due("a fault", Checks.bridge(v, "9,9,9,41"), -26);
        Checks.due("a bad one", v.traveller(0, 0, 10), -1);
        Checks.due("3 are known", v.count(8), 3);
        Checks.due("the sixth", v.traveller(0, 0, 1), 5);
        Checks.due("none is known", v.count(8), 0);
        Checks.due("none is known", v.undo(), -4);
        Checks.due("the day stays", v.count(1), 3);
        v.days(3);
        Checks.due("full", v.traveller(0, 0, 1), -3);
        Checks.due("3 are known", v.undo(), 2);
        Checks.bridge(v, "9,9,9,9");
        Checks.due("none is known", v.undo(), -4);
    }

    private static void undoneBySort() {
        Checks.promise("terms: UNDONE: STONES, THE LIST, all that is counted, the DAY, THE DRAW are as ahead of it");
        String before = State.of(halfway());
        RefusedStones[] done = new RefusedStones[6];
        for (int k = 0; k < done.length; k++) {
            done[k] = halfway();
        }
        done[0].days(1);
        done[1].list(63);
        done[2].mend(3, 40);
        done[3].flood(40);
        done[4].drift(1);
        done[5].seed(9);
        done[5].days(1);
        done[5].seed(1000);
        for (int k = 0; k < 5; k++) {
            Checks.due("undone " + k, done[k].undo(), 2);
            Checks.due("as ahead of it " + k, State.of(done[k]).equals(before));
        }
        Checks.due("the day alone", done[5].undo(), 2);
        Checks.due("whatever was told since", done[5].seed(77), 9);
        Checks.due("as ahead of it, but for the draw", State.of(done[5]).equals(before));

        Checks.promise("9 days, 13 drift: each by itself may be UNDONE");
        RefusedStones x = halfway();
        x.days(2);
        x.drift(3);
        Checks.due("two and five", x.count(8), 7);
        for (int k = 6; k >= 2; k--) {
            Checks.due("undo()", x.undo(), k);
            Checks.due("one day less", x.count(1), k - 1);
        }
        Checks.due("as it was", State.of(x).equals(before));
    }

    /** Two are known; one counted of each. */
    private static RefusedStones halfway() {
        RefusedStones x = Checks.built("5,6,7,2!b;w1a,c1b,c1");
        x.days(1);
        x.list(4);
        x.seed(77);
        return x;
    }

    /** What THE DRAW must be, so that it becomes this by the next DAY of a DRIFT. */
    private static int drawAhead(long next) {
        return (int) (((next - 12345L) * BACK) & 0x7fffffffL);
    }

    private static void dueDrawn(long next, int listed) {
        RefusedStones x = new RefusedStones();
        x.seed(drawAhead(next));
        Checks.due("drift(1) to " + next, x.drift(1), 0);
        Checks.due("the list by " + next, x.count(2), listed);
        Checks.due("the draw", x.seed(0), next);
    }

    private static void drawn() {
        Checks.promise("13 drift: the lowest 31 bits, by the least and the greatest draw");
        dueDrawn(0, 1);
        dueDrawn(Integer.MAX_VALUE, 0);
        dueDrawn(1L << 30, 0);
        RefusedStones x = new RefusedStones();
        x.seed(0);
        x.drift(1);
        Checks.due("0 becomes 12345", x.seed(Integer.MAX_VALUE), 12345);
        x.drift(1);
        Checks.due("31 bits of ones", x.seed(0), (Integer.MAX_VALUE * 1103515245L + 12345L) & 0x7fffffffL);

        Checks.promise("13 drift: if it by 65536 (cut), left over by 5, is 0");
        dueDrawn(65535, 1 << 1);
        dueDrawn(65536, 0);
        dueDrawn(5 * 65536 - 1, 0);
        dueDrawn(5 * 65536, 1 << 4);
        dueDrawn(6 * 65536 - 1, 1 << 5);
        dueDrawn(6 * 65536, 0);
        dueDrawn(32765L * 65536, 1 << (32765 * 512 % 6));
        dueDrawn(32765L * 65536 - 1, 0);

        Checks.promise("13 drift: the LOOK that is it by 128 (cut), left over by 6");
        dueDrawn(127, 1);
        dueDrawn(128, 1 << 1);
        dueDrawn(255, 1 << 1);
        dueDrawn(256, 1 << 2);
        dueDrawn(5 * 128, 1 << 5);
        dueDrawn(6 * 128 - 1, 1 << 5);
        dueDrawn(6 * 128, 1);

        Checks.promise("13 drift: is put on THE LIST, or, if it is on it, taken off; ahead of its DAY");
        RefusedStones y = Checks.built("9,9,9,9!af;w1b");
        y.seed(drawAhead(128));
        Checks.due("drift(1)", y.drift(1), 0);
        Checks.due("put on it", y.count(2), 0b100011);
        Checks.due("refused on this very day", y.count(4), 1);
        y.seed(drawAhead(5 * 128));
        y.drift(1);
        Checks.due("taken off", y.count(2), 0b000011);
        y.seed(drawAhead(128));
        y.drift(1);
        Checks.due("taken off", y.count(2), 0b000001);
        Checks.due("over on this very day", y.count(3), 1);
        Checks.due("undo()", y.undo(), 2);
        Checks.due("with its look", y.count(2), 0b000011);
        Checks.due("and its draw", y.seed(0), drawAhead(128));

        Checks.promise("13 drift: how many FELL in in them, 1 and 40 at once; days and the foretold draw nothing");
        RefusedStones z = Checks.built("0,0,0,0;w1,w1,w1,w1,w1,w1");
        Checks.due("drift(1)", z.drift(1), 6);
        Checks.due("drift(40)", z.drift(40), 240);
        Checks.due("8 are known", z.count(8), 8);
        int draw = z.seed(0);
        z.seed(draw);
        z.days(40);
        z.ahead(0, 60);
        z.hole();
        Checks.due("the draw stays", z.seed(0), draw);
    }

    private static RefusedStones onDay(int day, String text) {
        RefusedStones x = Checks.built(text);
        for (int k = 0; k < day / 40; k++) {
            x.days(40);
        }
        if (day % 40 != 0) {
            x.days(day % 40);
        }
        Checks.due("the day", x.count(1), day);
        return x;
    }

    private static void lastDay() {
        Checks.promise("9 days, FULL: the DAY would be above 9999");
        RefusedStones x = onDay(9960, "9,9,9,9");
        Checks.due("to 10000", x.days(40), -3);
        Checks.due("changes nothing", x.count(1), 9960);
        Checks.due("to 9999", x.days(39), 0);
        Checks.due("to 10000", x.days(1), -3);
        Checks.due("changes nothing", x.count(1), 9999);
        Checks.due("8 are known", x.undo(), 7);
        Checks.due("to 10000", x.days(2), -3);
        Checks.due("to 9999", x.days(1), 0);

        Checks.promise("13 drift, FULL: likewise; no draw is made");
        RefusedStones y = onDay(9998, "0,0,0,0;w1");
        y.seed(123);
        String before = State.of(y);
        RefusedStones z = onDay(9998, "0,0,0,0;w1");
        z.seed(123);
        Checks.due("to 10000", z.drift(2), -3);
        Checks.due("to 10038", z.drift(40), -3);
        Checks.due("to 10000", z.days(2), -3);
        Checks.due("changes nothing", State.of(z).equals(before));
        RefusedStones u = onDay(9998, "0,0,0,0;w1");
        Checks.due("to 9999", u.drift(1), 1);
        Checks.due("to 10000", u.drift(1), -3);

        Checks.promise("terms: what is so on DAY 9999, and is foretold behind it");
        RefusedStones v = onDay(9999, "40,40,40,40!b;d9b,t9b,b1b,w8b");
        Checks.due("a multiple of 9", v.of(0, 3), 1);
        Checks.due("no multiple of 8", v.of(3, 3), 0);
        Checks.due("odd", v.of(2, 5), 0);
        Checks.due("left over by 4: 3", v.wears(1, 3), 2);
        Checks.due("left over by 4: 3", v.wears(1, 0), 1);
        Checks.due("refused by now", v.then(0, 1), v.count(4));
        Checks.due("60 days more", v.then(60, 1) - v.count(4), 60 + 7 + 7 + 8);
        Checks.due("a bridge", Checks.bridge(v, "1,1,1,1"), 0);
        Checks.due("day 0 again", v.count(1), 0);
        Checks.due("days again", v.days(40), 0);
    }
}
