/** Promises 1 to 8: travellers, arches, and bridges as texts. */
final class TravellersTest {
    private TravellersTest() {
    }

    public static void main(String[] args) {
        newObject();
        traveller();
        of();
        wears();
        stones();
        type();
        bridgeTaken();
        bridgeFaults();
        count();
        Checks.end();
    }

    private static void newObject() {
        Checks.promise("1 a new object");
        RefusedStones x = new RefusedStones();
        Checks.dueStones("new", x, 10, 10, 10, 10);
        Checks.dueCounts("new", x, 0, 0, 0, 0, 0, 0, 40, 0, 0);
        Checks.due("of(0, 0)", x.of(0, 0), -1);
        Checks.due("undo()", x.undo(), -4);
        Checks.due("restore()", x.restore(), -4);
        for (int s = 0; s < 4; s++) {
            Checks.due("drop(" + s + ")", x.drop(s), -11);
        }
        Checks.due("seed(1)", x.seed(1), 1);
        Checks.due("bridge()", x.bridge(), -20);
        x.mend(0, 5);
        Checks.due("another object's stones", new RefusedStones().stones(0), 10);
    }

    private static void traveller() {
        Checks.promise("2 traveller");
        RefusedStones x = new RefusedStones();
        int[][] bad = {{-1, 0, 1}, {5, 0, 1}, {0, -1, 1}, {0, 64, 1}, {0, 0, 0}, {0, 0, 10}, {0, 0, -1},
            {Integer.MIN_VALUE, 0, 1}, {Integer.MAX_VALUE, 0, 1}, {0, Integer.MAX_VALUE, 1}, {0, 0, Integer.MAX_VALUE}};
        for (int[] b : bad) {
            Checks.due("traveller " + b[0] + " " + b[1] + " " + b[2], x.traveller(b[0], b[1], b[2]), -1);
        }
        Checks.due("nobody has come", x.count(0), 0);
        x.days(3);
        Checks.due("traveller(9, 0, 1)", x.traveller(9, 0, 1), -1);
        Checks.due("what is refused leaves what may be undone", x.count(8), 3);
        for (int t = 0; t < 5; t++) {
            Checks.due("traveller " + t, x.traveller(t, 63 - t, 9 - t), t);
        }
        Checks.due("a new one leaves nothing to be undone", x.undo(), -4);
        Checks.due("the sixth", x.traveller(4, 0, 1), 5);
        Checks.due("the day stays", x.count(1), 3);
        x.list(0);
        x.list(1);
        Checks.due("the seventh", x.traveller(0, 0, 1), -3);
        Checks.due("a bad seventh", x.traveller(5, 0, 1), -1);
        Checks.due("FULL changes nothing", x.count(0), 6);
        Checks.due("FULL leaves what may be undone", x.count(8), 1);
        for (int t = 0; t < 5; t++) {
            Checks.due("kind " + t, x.of(t, 0), t);
            Checks.due("looks " + t, x.of(t, 1), 63 - t);
            Checks.due("every " + t, x.of(t, 2), 9 - t);
        }
    }

    private static void of() {
        Checks.promise("3 of");
        RefusedStones x = new RefusedStones();
        for (int kind = 0; kind < 5; kind++) {
            x.traveller(kind, 1 << kind, kind + 1);
        }
        x.list(0b10110);
        int[] evenGifts = {1, 2, 1, 6, 0};
        int[] oddGifts = {1, 2, 0, 6, 0};
        int[] refused = {0, 1, 1, 0, 1};
        for (int day = 0; day < 13; day++) {
            for (int t = 0; t < 5; t++) {
                String who = "day " + day + ", of " + t;
                Checks.due(who + " kind", x.of(t, 0), t);
                Checks.due(who + " looks", x.of(t, 1), 1 << t);
                Checks.due(who + " every", x.of(t, 2), t + 1);
                Checks.due(who + " comes", x.of(t, 3), day % (t + 1) == 0 ? 1 : 0);
                Checks.due(who + " refused", x.of(t, 4), refused[t]);
                Checks.due(who + " gives", x.of(t, 5), day % 2 == 0 ? evenGifts[t] : oddGifts[t]);
            }
            x.days(1);
        }
        for (int what : new int[] {-1, 6, Integer.MIN_VALUE, Integer.MAX_VALUE}) {
            Checks.due("of(0, " + what + ")", x.of(0, what), -1);
        }
        for (int t : new int[] {-1, 5, 6, Integer.MIN_VALUE, Integer.MAX_VALUE}) {
            Checks.due("of(" + t + ", 0)", x.of(t, 0), -1);
        }
    }

    private static void wears() {
        Checks.promise("4 wears");
        RefusedStones x = new RefusedStones();
        for (int kind = 0; kind < 5; kind++) {
            x.traveller(kind, 0, 9);
        }
        for (int day = 0; day < 12; day++) {
            for (int arch = 0; arch < 4; arch++) {
                String when = "day " + day + ", arch " + arch + ": ";
                Checks.due(when + "walker", x.wears(0, arch), 1);
                Checks.due(when + "carter", x.wears(1, arch), 2);
                Checks.due(when + "beggar", x.wears(2, arch), 1);
                Checks.due(when + "duke", x.wears(3, arch), arch == 0 || arch == 2 ? 2 : 0);
                Checks.due(when + "thief", x.wears(4, arch), day % 4 == arch ? 2 : 1);
            }
            x.days(1);
        }
        for (int arch : new int[] {-1, 4, Integer.MIN_VALUE, Integer.MAX_VALUE}) {
            Checks.due("wears(0, " + arch + ")", x.wears(0, arch), -1);
        }
        for (int t : new int[] {-1, 5, Integer.MIN_VALUE, Integer.MAX_VALUE}) {
            Checks.due("wears(" + t + ", 0)", x.wears(t, 0), -1);
        }
    }

    private static void stones() {
        Checks.promise("5 stones");
        RefusedStones x = Checks.built("0,40,7,31");
        Checks.dueStones("built", x, 0, 40, 7, 31);
        for (int arch : new int[] {-1, 4, Integer.MIN_VALUE, Integer.MAX_VALUE}) {
            Checks.due("stones(" + arch + ")", x.stones(arch), -1);
        }
    }

    private static void type() {
        Checks.promise("6 type");
        RefusedStones x = new RefusedStones();
        for (int letter : new int[] {31, 127, -1, 0, 10, 256 + 65, Integer.MIN_VALUE, Integer.MAX_VALUE}) {
            Checks.due("type(" + letter + ")", x.type(letter), -1);
        }
        Checks.due("the least letter", x.type(32), 1);
        Checks.due("the greatest letter", x.type(126), 2);
        Checks.due("bridge() behind a blank", x.bridge(), -21);
        for (int i = 1; i <= 80; i++) {
            Checks.due("letter " + i, x.type(32), i);
        }
        Checks.due("the 81st", x.type(32), -3);
        Checks.due("a bad 81st", x.type(31), -1);
        Checks.due("80 blanks", x.bridge(), -100);
        Checks.due("the tape is empty then", x.type(48), 1);
    }

    private static void bridgeTaken() {
        Checks.promise("7 bridge: what is taken");
        RefusedStones x = Checks.built("1,02,30,40!acf;w1,c2b,b3af,d9,t5abcdef,w7f");
        Checks.dueStones("whole", x, 1, 2, 30, 40);
        Checks.dueCounts("whole", x, 6, 0, 0b100101, 0, 0, 0, 73, 0, 0);
        int[][] told = {{0, 0, 1}, {1, 2, 2}, {2, 33, 3}, {3, 0, 9}, {4, 63, 5}, {0, 32, 7}};
        for (int t = 0; t < 6; t++) {
            for (int what = 0; what < 3; what++) {
                Checks.due("of(" + t + ", " + what + ")", x.of(t, what), told[t][what]);
            }
        }
        x.days(1);
        x.mend(0, 40);
        x.mend(1, 40);
        x.days(4);
        Checks.due("some were over", x.count(3) > 0);
        Checks.due("some were refused", x.count(4) > 0);
        Checks.due("some fell", x.count(5) > 0);
        x.seed(77);
        Checks.due("image()", x.image(), 1);
        x.sheet(1, 2, 3);
        Checks.due("in place of all", Checks.bridge(x, "  3 , 4,5 ,6 "), 0);
        Checks.dueStones("in place of all", x, 3, 4, 5, 6);
        Checks.dueCounts("in place of all", x, 0, 0, 0, 0, 0, 0, 18, 0, 0);
        Checks.due("nothing is left to be undone", x.undo(), -4);
        Checks.due("the draw stays", x.seed(77), 77);
        Checks.due("sheets stay", x.drop(1), 3);
        Checks.due("the image stays", x.restore(), 1);
        Checks.due("the image's travellers", x.count(0), 6);
        Checks.due("blanks", Checks.bridge(x, " 1 ,2, 3,4 ! a  c ; w 2 a b , c 3 "), 2);
        Checks.dueCounts("blanks", x, 2, 0, 5);
        Checks.due("blanks: looks", x.of(0, 1), 3);
        Checks.due("travellers without a list", Checks.bridge(x, "9,9,9,9;t1"), 1);
        Checks.dueCounts("travellers without a list", x, 1, 0, 0);
    }

    private static void bridgeFaults() {
        Checks.promise("7 bridge: FAULTS");
        Object[][] faults = {{"", 0}, {"   ", 3}, {"x", 0}, {" x", 1}, {",", 0}, {"-1,2,3,4", 0}, {"1", 1}, {"1,", 2},
            {"1 ", 2}, {"1, ", 3}, {"41,1,1,1", 0}, {"1, 41,1,1", 3}, {"1,99x", 2}, {"1,411", 2}, {"1,401", 4},
            {"001", 2}, {"4 0,1,1,1", 2}, {"99 9", 0}, {"1;2", 1}, {"1,2,3", 5}, {"1,2,3,", 6}, {"1,2,3,4,", 7},
            {"1,2,3,4,5", 7}, {"1,2,3,4x", 7}, {"1,2,3,4!", 8}, {"1,2,3,4! ", 9}, {"1,2,3,4!g", 8}, {"1,2,3,4!A", 8},
            {"1,2,3,4!;w1", 8}, {"1,2,3,4! ;w1", 9}, {"1,2,3,4!aa", 9}, {"1,2,3,4!ba", 9}, {"1,2,3,4!a b a", 12},
            {"1,2,3,4!a!", 9}, {"1,2,3,4!f,", 9}, {"1,2,3,4!fg", 9}, {"1,2,3,4;", 8}, {"1,2,3,4; ", 9},
            {"1,2,3,4;1", 8}, {"1,2,3,4;a1", 8}, {"1,2,3,4;w", 9}, {"1,2,3,4;w0", 9}, {"1,2,3,4;wa", 9},
            {"1,2,3,4;w10", 10}, {"1,2,3,4;w1 2", 11}, {"1,2,3,4;w1w", 10}, {"1,2,3,4;w1g", 10},
            {"1,2,3,4;w1aa", 11}, {"1,2,3,4;w1ca", 11}, {"1,2,3,4;w1,", 11}, {"1,2,3,4;w1,,", 11},
            {"1,2,3,4;w1;", 10}, {"1,2,3,4;w1!a", 10}, {"1,2,3,4;w1,w1,w1,w1,w1,w1,", 25},
            {"1,2,3,4;w1,w1,w1,w1,w1,w1,w1", 25}, {"1,2,3,4 !a;w1;w", 13}, {"40,40,40,41!", 9}};
        for (Object[] fault : faults) {
            RefusedStones x = Checks.built("5,6,7,8!b;c2a");
            x.days(1);
            Checks.due("'" + fault[0] + "'", Checks.bridge(x, (String) fault[0]), -20 - (Integer) fault[1]);
            Checks.dueStones("all else stays", x, 3, 4, 5, 6);
            Checks.dueCounts("all else stays", x, 1, 1, 2, 1, 0, 0, 18, 0, 1);
            Checks.due("the tape is empty then", x.bridge(), -20);
        }
    }

    private static void count() {
        Checks.promise("8 count");
        RefusedStones x = Checks.built("1,10,1,10!a;w1,c1a,w2a");
        Checks.dueCounts("day 0", x, 3, 0, 1, 0, 0, 0, 22, 0, 0);
        // The walker empties arch 0, the refused ones put in 2 and 1.
        x.days(1);
        Checks.dueStones("day 1", x, 2, 10, 2, 10);
        Checks.dueCounts("day 1", x, 3, 1, 1, 0, 2, 1, 24, 0, 1);
        x.flood(2);
        Checks.dueCounts("flooded", x, 3, 1, 1, 0, 2, 1, 16, 0b101, 2);
        x.list(0);
        x.mend(0, 9);
        x.mend(2, 9);
        x.days(1);
        Checks.dueCounts("day 2", x, 3, 2, 0, 2, 2, 1, 34 - 12, 0, 6);
        for (int what : new int[] {-1, 9, Integer.MIN_VALUE, Integer.MAX_VALUE}) {
            Checks.due("count(" + what + ")", x.count(what), -1);
        }
    }
}
