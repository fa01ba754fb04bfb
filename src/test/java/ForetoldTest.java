/** Promises 16 to 27: what is foretold, and images. */
final class ForetoldTest {
    private ForetoldTest() {
    }

    public static void main(String[] args) {
        ahead();
        then();
        hole();
        first();
        wise();
        more();
        less();
        stands();
        bears();
        floods();
        image();
        restore();
        nothingIsChanged();
        Checks.end();
    }

    private static void ahead() {
        Checks.promise("16 ahead");
        RefusedStones x = Checks.built("9,9,9,5!a;t1,w2a");
        int[][] bad = {{-1, 0}, {4, 0}, {0, -1}, {0, 61}, {Integer.MIN_VALUE, 0}, {0, Integer.MAX_VALUE}};
        for (int[] b : bad) {
            Checks.due("ahead(" + b[0] + ", " + b[1] + ")", x.ahead(b[0], b[1]), -1);
        }
        // day 0: thief 2 1 1 1 off 9 9 9 5, walker into arch 3; day 1: 1 2 1 1; day 2: 1 1 2 1, into arch 3.
        int[][] want = {{9, 9, 9, 5}, {7, 8, 8, 5}, {6, 6, 7, 4}, {5, 5, 5, 4}};
        for (int n = 0; n < want.length; n++) {
            for (int arch = 0; arch < 4; arch++) {
                Checks.due("ahead(" + arch + ", " + n + ")", x.ahead(arch, n), want[n][arch]);
            }
        }
        // 3 off arches 0 and 2 on days 0 and 9, 2 on others: 2 are left by day 18, when the duke falls by arch 0.
        RefusedStones y = Checks.built("40,40,40,40;d1,w9");
        Checks.due("18 days", y.ahead(0, 18), 2);
        Checks.due("60 days", y.ahead(0, 60), 0);
        Checks.due("60 days", y.ahead(2, 60), 2);
        // The 40 stones wear down by 1 on days 0, 9, .. 54.
        Checks.due("60 days", Checks.built("40,40,40,40;w9").ahead(1, 60), 33);
    }

    private static void then() {
        Checks.promise("17 then");
        RefusedStones x = Checks.built("3,3,3,3!b;w1,w3b");
        int[][] bad = {{-1, 0}, {61, 0}, {0, -1}, {0, 3}, {Integer.MIN_VALUE, 0}, {0, Integer.MAX_VALUE}};
        for (int[] b : bad) {
            Checks.due("then(" + b[0] + ", " + b[1] + ")", x.then(b[0], b[1]), -1);
        }
        // 3333 -> 3222 -> 2111 -> falls by arch 1 -> a stone into it on day 3 only behind the walker.
        int[][] want = {{0, 0, 0}, {1, 1, 0}, {2, 1, 0}, {2, 1, 1}, {2, 2, 2}};
        for (int n = 0; n < want.length; n++) {
            for (int what = 0; what < 3; what++) {
                Checks.due("then(" + n + ", " + what + ")", x.then(n, what), want[n][what]);
            }
        }
        x.days(3);
        Checks.due("with those that were counted by now", x.then(0, 0), 2);
        Checks.due("with those that were counted by now", x.then(1, 1), 2);
        Checks.due("with those that were counted by now", x.then(1, 2), 2);
        Checks.due("60 days", new RefusedStones().then(60, 0), 0);
    }

    private static void hole() {
        Checks.promise("18 hole");
        Checks.due("none", new RefusedStones().hole(), -4);
        Checks.due("there is one now", Checks.built("9,0,9,9").hole(), 0);
        Checks.due("the tenth day", Checks.built("10,10,10,10;w1").hole(), 10);
        // 7 stones, one each ninth day: gone by day 54, behind 55 days; 8 by day 63.
        Checks.due("behind 55 days", Checks.built("40,7,40,40;w9").hole(), 55);
        Checks.due("behind 64 days", Checks.built("40,8,40,40;w9").hole(), -4);
        // By every second day the thirtieth time is day 58, behind 59 days; from day 1 on the 30th is day 59.
        RefusedStones x = Checks.built("40,30,40,40;w2");
        Checks.due("behind 59 days", x.hole(), 59);
        RefusedStones y = Checks.built("40,31,40,40;w2");
        y.days(1);
        Checks.due("behind 60 days, less", y.hole(), 60);
        RefusedStones z = Checks.built("40,32,40,40;w2");
        z.days(1);
        Checks.due("none in 60 days", z.hole(), -4);
        // A hole that the same day fills again is none behind it.
        Checks.due("filled", Checks.built("1,9,9,9!a;w1,w1a").hole(), -4);
    }

    private static void first() {
        Checks.promise("19 first");
        RefusedStones x = Checks.built("3,3,3,3!f;w1,d2,b3,w1f,w9");
        for (int t : new int[] {-1, 5, Integer.MIN_VALUE, Integer.MAX_VALUE}) {
            Checks.due("first(" + t + ")", x.first(t), -1);
        }
        Checks.due("first(4)", x.first(4) > 0);
        RefusedStones y = Checks.built("1,9,9,9;w2,w3");
        // Both come on day 0 and fall.
        Checks.due("on the next day", y.first(0), 1);
        Checks.due("on the next day", y.first(1), 1);
        y.days(1);
        Checks.due("day 2 is the second", y.first(0), 2);
        Checks.due("day 3 is the third", y.first(1), 3);
        Checks.due("who is refused", Checks.built("1,9,9,9!c;w1c").first(0), -4);
        // One stone a day, 60 of the 41st: falls on day 39 at last, the 40th.
        Checks.due("the 40th", Checks.built("40,40,40,40;w1").first(0), 40);
        RefusedStones z = Checks.built("40,31,40,40;w2");
        z.days(1);
        Checks.due("the 60th", z.first(0), 60);
        RefusedStones late = Checks.built("40,32,40,40;w2");
        late.days(1);
        Checks.due("none in 60", late.first(0), -4);
    }

    private static void wise() {
        Checks.promise("20 wise");
        RefusedStones x = Checks.built("3,3,3,3!f;w1a,c2b");
        int[][] bad = {{0, 0}, {41, 0}, {1, -1}, {1, 3}, {Integer.MIN_VALUE, 0}, {1, Integer.MAX_VALUE}};
        for (int[] b : bad) {
            Checks.due("wise(" + b[0] + ", " + b[1] + ")", x.wise(b[0], b[1]), -1);
        }
        // By none on the list the carter falls on day 0; by a or b alone none: a lets 1 over, b as many: the least.
        Checks.due("which", x.wise(1, 0), 1);
        Checks.due("fall", x.wise(1, 1), 0);
        Checks.due("are over", x.wise(1, 2), 1);
        // a: carter takes 2 off 4 4 3 3 on day 0; day 1: a walker's; day 2: carter takes 2 off 3 2 .. : by then..
        // b: 2 walkers go over in 2 days; a: 1 carter.
        Checks.due("most over", x.wise(2, 0), 2);
        Checks.due("are over", x.wise(2, 2), 2);
        Checks.due("nobody comes: the least set", Checks.built("9,9,9,9!abc").wise(40, 0), 0);
        RefusedStones y = Checks.built("0,0,0,0;w1,w1a");
        Checks.due("fewest fall", y.wise(1, 0), 1);
        Checks.due("fall in them", y.wise(1, 1), 1);
        Checks.due("over in them", y.wise(1, 2), 0);
        y.days(3);
        Checks.due("fall in them, not by now", y.wise(2, 1), 2);
        RefusedStones z = Checks.built("40,40,40,40;w1");
        z.days(5);
        Checks.due("over in them, not by now", z.wise(3, 2), 3);
    }

    private static void more() {
        Checks.promise("21 more");
        for (int n : new int[] {0, 41, -1, Integer.MAX_VALUE}) {
            Checks.due("more(" + n + ")", new RefusedStones().more(n), -1);
        }
        RefusedStones x = Checks.built("9,9,9,9!abcdef");
        Checks.due("all are", x.more(1), -4);
        Checks.due("all are, badly asked", x.more(0), -1);
        Checks.due("like ones: the first", Checks.built("9,9,9,9!ab;w1").more(3), 2);
        // The one that falls is refused by d; by c another is, who would be over.
        Checks.due("fewest fall", Checks.built("2,2,2,2;w1c,c1d").more(1), 3);
        Checks.due("most over", Checks.built("9,9,9,9;w1ab").more(1), 2);
        Checks.due("the first look", Checks.built("9,9,9,9;w1bcdef").more(1), 0);
        RefusedStones y = Checks.built("9,9,9,9!abcde;w1f");
        Checks.due("another asked ahead", y.less(1), 0);
        Checks.due("by itself", y.more(1), 5);
        Checks.due("only those that are not on it", Checks.built("9,9,9,9!a;w1ab").more(1), 1);
    }

    private static void less() {
        Checks.promise("22 less");
        for (int n : new int[] {0, 41, -1, Integer.MAX_VALUE}) {
            Checks.due("less(" + n + ")", Checks.built("1,1,1,1!a").less(n), -1);
        }
        RefusedStones x = new RefusedStones();
        Checks.due("none is on it", x.less(1), -4);
        Checks.due("none is on it, badly asked", x.less(41), -1);
        Checks.due("like ones: the first", Checks.built("9,9,9,9!cef;w1a").less(3), 2);
        Checks.due("fewest fall", Checks.built("2,2,2,2!cd;c1c,w1d").less(1), 3);
        Checks.due("most over", Checks.built("9,9,9,9!ab;w1b").less(1), 1);
        Checks.due("the first look", Checks.built("9,9,9,9!abcdef;w1,w1a").less(1), 0);
        RefusedStones y = Checks.built("9,9,9,9!a;w1a");
        Checks.due("another asked ahead", y.wise(1, 0), 0);
        Checks.due("by itself", y.less(1), 0);
        y.list(0);
        Checks.due("none, asked behind another", y.less(1), -4);
        Checks.due("only those that are on it", Checks.built("9,9,9,9!bf;w1a,w1f").less(1), 5);
    }

    private static void stands() {
        Checks.promise("23 stands");
        for (int looks : new int[] {-1, 64, Integer.MIN_VALUE, Integer.MAX_VALUE}) {
            Checks.due("stands(" + looks + ")", new RefusedStones().stands(looks), -1);
        }
        RefusedStones x = Checks.built("4,4,4,4!a;w1a,w4b");
        Checks.due("were it none", x.stands(0), 3);
        Checks.due("were it a", x.stands(1), -4);
        Checks.due("were it both", x.stands(3), -4);
        Checks.due("the list stays", x.count(2), 1);
        x.flood(4);
        Checks.due("now", x.stands(63), 0);
        RefusedStones y = Checks.built("40,31,40,40!b;w2");
        y.days(1);
        Checks.due("behind 60 days", y.stands(0), 60);
    }

    private static void bears() {
        Checks.promise("24 bears");
        for (int n : new int[] {0, 41, -1, Integer.MIN_VALUE, Integer.MAX_VALUE}) {
            Checks.due("bears(" + n + ")", new RefusedStones().bears(n), -1);
        }
        Checks.due("nobody comes", new RefusedStones().bears(40), 40);
        RefusedStones x = Checks.built("10,12,10,11;w1");
        Checks.due("one day", x.bears(1), 8);
        Checks.due("five days", x.bears(5), 4);
        Checks.due("nine days", x.bears(9), 0);
        Checks.due("ten days", x.bears(10), -4);
        x.days(9);
        Checks.due("now", x.bears(1), -4);
        x.days(3);
        x.mend(0, 9);
        x.mend(1, 9);
        x.mend(2, 9);
        x.mend(3, 9);
        Checks.due("who fell by now is not counted", x.bears(2), 6);
        Checks.due("there may be a hole", Checks.built("5,5,5,5!a;d1a,w9a").bears(3), 40);
        // The stones of a refused one mend behind the flood: 0 0 0 0 becomes 2 2 1 1, and a duke gets over 1.
        Checks.due("mended behind it", Checks.built("9,9,9,9!a;d1a,d1a,w1").bears(1), 40);
    }

    private static void floods() {
        Checks.promise("25 floods");
        RefusedStones x = new RefusedStones();
        int[][] bad = {{-1, 0}, {11, 0}, {0, -1}, {0, 2}, {Integer.MIN_VALUE, 0}, {0, Integer.MAX_VALUE}};
        for (int[] b : bad) {
            Checks.due("floods(" + b[0] + ", " + b[1] + ")", x.floods(b[0], b[1]), -1);
        }
        Checks.dueChance("10,10,10,10", 3, 1, 1);
        Checks.dueChance("6,9,9,9;w1", 3, 7, 10);
        Checks.dueChance("7,9,9,9;w1", 3, 1, 1);
        Checks.dueChance("6,6,9,9;w1", 3, 49, 100);
        Checks.dueChance("6,6,6,9;w1", 3, 343, 1000);
        Checks.dueChance("6,6,6,6;w1", 3, 2401, 10000);
        Checks.dueChance("6,6,6,6;w1", 5, 1, 16);
        Checks.dueChance("6,6,6,6;w1", 0, 1, 1);
        Checks.dueChance("6,6,6,6;w1", 10, 0, 1);
        Checks.dueChance("6,6,6,6!b;w1b", 10, 1, 1);
        Checks.dueChance("2,9,9,3;w1", 1, 81, 100);
        Checks.dueChance("1,9,9,9;w1", 5, 0, 1);
        Checks.dueChance("40,5,40,40;d1", 4, 3, 5);
        Checks.dueChance("40,5,40,40;d1,c2", 4, 3, 5);
    }

    private static void image() {
        Checks.promise("26 image");
        RefusedStones x = Checks.built("9,8,7,6!c;w1,b2c");
        x.days(2);
        x.seed(42);
        x.type(49);
        x.sheet(0, 1, 5);
        Checks.due("image()", x.image(), 1);
        Checks.dueCounts("nothing is changed", x, 2, 2, 4, 2, 1, 0, 23, 0, 2);
        x.traveller(1, 1, 1);
        x.list(9);
        x.days(7);
        x.seed(1);
        x.sheet(0, 2, 6);
        x.type(44);
        Checks.due("restore()", x.restore(), 1);
        Checks.dueStones("as it was then", x, 7, 6, 5, 5);
        Checks.dueCounts("as it was then", x, 2, 2, 4, 2, 1, 0, 23, 0, 2);
        Checks.due("the draw", x.seed(42), 42);
        Checks.due("sheets are not kept", x.drop(0), 6);
        Checks.due("nor is the tape", x.type(50), 3);
        Checks.due("what may be undone, too", x.undo(), 1);
        Checks.dueStones("undone", x, 8, 7, 6, 6);
        Checks.due("another image takes its place", x.image(), 1);
        x.days(1);
        x.restore();
        Checks.dueCounts("the other image", x, 2, 1, 4, 1, 1, 0, 27, 0, 1);
    }

    private static void restore() {
        Checks.promise("27 restore");
        RefusedStones x = new RefusedStones();
        Checks.due("there is none", x.restore(), -4);
        Checks.due("and nothing is changed", x.count(6), 40);
        x.image();
        Checks.bridge(x, "1,2,3,4!f;w1,w1");
        x.days(3);
        Checks.due("restore()", x.restore(), 1);
        Checks.dueCounts("a new object", x, 0, 0, 0, 0, 0, 0, 40, 0, 0);
        x.days(3);
        x.undo();
        Checks.due("again", x.restore(), 1);
        Checks.dueCounts("again", x, 0, 0, 0, 0, 0, 0, 40, 0, 0);
        Checks.due("what may be undone is as it was", x.undo(), -4);
        // Undone from an image that was taken when more than 8 were done.
        for (int k = 1; k <= 10; k++) {
            x.list(k);
        }
        x.image();
        for (int k = 20; k <= 33; k++) {
            x.list(k);
        }
        x.restore();
        for (int k = 9; k >= 2; k--) {
            x.undo();
            Checks.due("undone to " + k, x.count(2), k);
        }
        Checks.due("older ones are lost", x.undo(), -4);
        x.restore();
        Checks.due("the image itself was not undone", x.count(2), 10);
        Checks.due("nor what it knows", x.count(8), 8);
    }

    private static void nothingIsChanged() {
        Checks.promise("16 to 25: nothing is changed");
        RefusedStones x = Checks.built("8,7,9,8!bd;w1ab,c2b,b1d,d3,t2,w4f");
        x.days(2);
        x.seed(9);
        for (int n = 1; n <= 40; n += 13) {
            x.ahead(1, n);
            x.then(n, 2);
            x.hole();
            x.first(3);
            x.wise(n, 0);
            x.more(n);
            x.less(n);
            x.stands(n);
            x.bears(n);
            x.floods(4, 0);
        }
        Checks.dueStones("foretold", x, x.ahead(0, 0), x.ahead(1, 0), x.ahead(2, 0), x.ahead(3, 0));
        RefusedStones y = Checks.built("8,7,9,8!bd;w1ab,c2b,b1d,d3,t2,w4f");
        y.days(2);
        for (int what = 0; what < 9; what++) {
            Checks.due("count(" + what + ")", x.count(what), y.count(what));
        }
        Checks.dueStones("foretold", x, y.stones(0), y.stones(1), y.stones(2), y.stones(3));
        Checks.due("the draw", x.seed(9), 9);
        Checks.due("what is foretold comes", y.then(5, 2) - y.count(5), x.days(5));
    }
}
