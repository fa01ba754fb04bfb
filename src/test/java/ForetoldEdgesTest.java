/** The sentences of promises 16 to 27 and their terms that name an edge, each by itself. */
final class ForetoldEdgesTest {
    private ForetoldEdgesTest() {
    }

    public static void main(String[] args) {
        foretold();
        firsts();
        chosen();
        bears();
        floods();
        images();
        Checks.end();
    }

    private static void foretold() {
        Checks.promise("16 ahead, 17 then: behind 0 DAYS it is as now");
        RefusedStones x = Checks.built("5,6,7,2!b;w1a,c1b,c1");
        x.days(1);
        int[] now = {x.count(3), x.count(4), x.count(5)};
        for (int k = 0; k < 4; k++) {
            Checks.due("ahead(" + k + ", 0)", x.ahead(k, 0), x.stones(k));
        }
        for (int what = 0; what < 3; what++) {
            Checks.due("then(0, " + what + ")", x.then(0, what), now[what]);
        }

        Checks.promise("16 ahead, 17 then: behind 1, 59 and 60 DAYS");
        RefusedStones y = Checks.built("40,40,40,40;w1,w9a,b2abc");
        RefusedStones z = Checks.built("40,40,40,40;w1,w9a,b2abc");
        int[] stops = {1, 58, 1};
        int day = 0;
        for (int stop : stops) {
            day += stop;
            for (int left = stop; left > 0; left -= Math.min(40, left)) {
                z.days(Math.min(40, left));
            }
            Checks.due("the day", z.count(1), day);
            for (int arch = 0; arch < 4; arch++) {
                Checks.due("ahead(" + arch + ", " + day + ")", y.ahead(arch, day), z.stones(arch));
            }
            for (int what = 0; what < 3; what++) {
                Checks.due("then(" + day + ", " + what + ")", y.then(day, what), z.count(3 + what));
            }
        }
        Checks.due("some were over", y.then(60, 0) > 0);
        Checks.due("some fell", y.then(60, 2) > 0);

        Checks.promise("18 hole: 0, if there is one now; 60 at last; NONE");
        Checks.due("now", Checks.built("40,40,40,0").hole(), 0);
        Checks.due("behind 1", Checks.built("40,40,40,1;w1").hole(), 1);
        RefusedStones late = Checks.built("40,31,40,40;w2");
        late.days(1);
        Checks.due("behind 60", late.hole(), 60);
        Checks.due("there it is", late.ahead(1, 60), 0);
        Checks.due("not ahead of it", late.ahead(1, 59), 1);
        RefusedStones later = Checks.built("40,32,40,40;w2");
        later.days(3);
        Checks.due("behind 61 is none", Checks.built("40,40,40,40;w2").hole(), -4);
        Checks.due("behind 60 from day 3 on", later.hole(), 60);
        RefusedStones latest = Checks.built("40,32,40,40;w2");
        latest.days(2);
        Checks.due("behind 61 from day 2 on is none", latest.hole(), -4);

        Checks.promise("18 hole: one that is filled by the end of the DAY is none");
        Checks.due("filled by who is refused", Checks.built("1,9,9,9!a;w1,w1a").hole(), -4);
        Checks.due("not filled", Checks.built("1,9,9,9!a;w1a,w1,w1").hole(), 1);

        Checks.promise("23 stands: 0, if there is a HOLE now; 60 at last; NONE; were it THE LIST");
        Checks.due("now", Checks.built("0,9,9,9;w1a").stands(1), 0);
        RefusedStones s = Checks.built("40,30,40,40!c;w2b");
        Checks.due("he is refused by b", s.stands(2), -4);
        Checks.due("and by all", s.stands(63), -4);
        Checks.due("but not by all the others", s.stands(61), 59);
        Checks.due("nor by none", s.stands(0), 59);
        Checks.due("the list stays", s.count(2), 4);
        RefusedStones t = Checks.built("40,31,40,40!b;w2");
        t.days(1);
        Checks.due("behind 60", t.stands(0), 60);
        RefusedStones u = Checks.built("40,32,40,40!b;w2");
        u.days(2);
        Checks.due("behind 61 is none", u.stands(0), -4);
    }

    private static void firsts() {
        Checks.promise("19 first: 1, if he FALLS in in the next DAY; 60 at last; NONE");
        Checks.due("the next day", Checks.built("9,9,9,0;w1").first(0), 1);
        RefusedStones x = Checks.built("40,31,40,40;w2");
        x.days(1);
        Checks.due("the 60th", x.first(0), 60);
        RefusedStones y = Checks.built("40,32,40,40;w2");
        y.days(2);
        Checks.due("the 61st is none", y.first(0), -4);

        Checks.promise("19 first: he alone, be it that others FALL");
        RefusedStones z = Checks.built("1,9,9,9!a;w1,w1a,d1,w3,w1,w1");
        Checks.due("the first", z.first(0), 1);
        Checks.due("who is refused", z.first(1), -4);
        Checks.due("the fourth", z.first(3), 1);
        Checks.due("the last", z.first(5), 1);
        Checks.due("nothing is counted", z.count(5), 0);
        z.days(1);
        Checks.due("who comes by the third day", z.first(3), 3);
    }

    private static void chosen() {
        Checks.promise("20 wise: fewest FALL in, of like ones most are OVER, of like ones the least set");
        Checks.due("the least set of all", Checks.built("9,9,9,9!abcdef").wise(1, 0), 0);
        Checks.due("the greatest: all must be refused",
            Checks.built("0,0,0,0;w1a,w1b,w1c,w1d,w1e,w1f").wise(1, 0), 63);
        RefusedStones x = Checks.built("0,9,9,9;w1a,w1b");
        Checks.due("both are refused ahead of most over", x.wise(1, 0), 3);
        Checks.due("fall", x.wise(1, 1), 0);
        Checks.due("over", x.wise(1, 2), 0);
        // By none the carter falls; by a he alone is over, by b the two others are.
        RefusedStones y = Checks.built("3,9,9,9;w1a,w1a,c1b");
        Checks.due("most are over ahead of the least set", y.wise(1, 0), 2);
        Checks.due("fall", y.wise(1, 1), 0);
        Checks.due("over", y.wise(1, 2), 2);
        Checks.due("of like ones the least set", Checks.built("2,9,9,9;w1a,c1b").wise(1, 0), 1);

        Checks.promise("20 wise: for 1 and for 40 DAYS; in them alone");
        RefusedStones z = Checks.built("40,40,40,40;w1a");
        Checks.due("1 day: none", z.wise(1, 0), 0);
        Checks.due("1 day: over", z.wise(1, 2), 1);
        Checks.due("39 days: none", z.wise(39, 0), 0);
        Checks.due("40 days: he would fall", z.wise(40, 0), 1);
        Checks.due("40 days: over", z.wise(40, 2), 0);
        z.days(39);
        Checks.due("what was counted is not told", z.wise(1, 2), 0);
        z.days(3);
        Checks.due("what was counted is not told", z.wise(1, 1), 0);

        Checks.promise("21 more: of all LOOKS that are not on THE LIST; of like ones the first; none: all are");
        Checks.due("the first of all", Checks.built("9,9,9,9").more(1), 0);
        Checks.due("the first that is not on it", Checks.built("9,9,9,9!abcde").more(1), 5);
        Checks.due("the only one, but for its worth", Checks.built("9,9,9,9!bcdef;w1a").more(40), 0);
        Checks.due("all are", Checks.built("9,9,9,9!abcdef").more(40), -4);
        RefusedStones full = Checks.built("9,9,9,9!abcdef;w1a");
        Checks.due("all are: some may be taken off", full.less(1), 0);
        Checks.due("all are, asked behind another", full.more(1), -4);
        Checks.due("fewest fall", Checks.built("2,9,9,9;w1e,w1f").more(1), 4);
        Checks.due("most over", Checks.built("9,9,9,9;w1abcde").more(8), 5);
        Checks.due("he would fall on the ninth day", Checks.built("9,9,9,9;w1abcde").more(9), 0);

        Checks.promise("22 less: of those that are on it; none");
        Checks.due("none", Checks.built("9,9,9,9").less(40), -4);
        Checks.due("the first of all", Checks.built("9,9,9,9!abcdef").less(1), 0);
        Checks.due("the only one", Checks.built("9,9,9,9!f").less(1), 5);
        Checks.due("the only one, but for its worth", Checks.built("0,9,9,9!a;w1a").less(40), 0);
        Checks.due("fewest fall", Checks.built("0,9,9,9!abc;w1a,w1b").less(1), 2);
        Checks.due("most over", Checks.built("9,9,9,9!ab;w1b").less(1), 1);
    }

    private static void bears() {
        Checks.promise("24 bears: 40 at most, 0 at least; NONE");
        Checks.due("nobody comes: 40", Checks.built("0,0,0,0").bears(40), 40);
        Checks.due("all are refused: 40", Checks.built("9,9,9,9!a;t1a").bears(40), 40);
        Checks.due("39 of 40 and 2 left", Checks.built("40,40,40,40;w1").bears(1), 38);
        Checks.due("one more than he wears", Checks.built("2,2,2,2;w1").bears(1), 0);
        Checks.due("no more", Checks.built("9,1,9,9;w1").bears(1), -4);
        Checks.due("40 days", Checks.built("40,40,40,40;w2").bears(40), 19);
        Checks.due("41 stones would be due", Checks.built("40,40,40,40;w1").bears(40), -4);
        Checks.due("39 days", Checks.built("40,40,40,40;w1").bears(39), 0);
        Checks.due("there may be a hole", Checks.built("9,9,9,0!a;w9a").bears(40), 40);
        Checks.due("not on this day", Checks.built("3,9,9,9!a;w1a,w9").bears(1), 2);
    }

    private static void floods() {
        Checks.promise("25 floods: by 0 of 10, by 10 of 10; a fraction in lowest terms, 0 by 1 and 1 by 1, too");
        Checks.dueChance("7,7,7,7;w1", 0, 1, 1);
        Checks.dueChance("7,7,7,7;w1", 10, 1, 1);
        Checks.dueChance("6,7,7,7;w1", 0, 1, 1);
        Checks.dueChance("6,7,7,7;w1", 10, 0, 1);
        Checks.dueChance("1,7,7,7;w1", 0, 0, 1);
        Checks.dueChance("1,7,7,7;w1", 7, 0, 1);
        Checks.dueChance("6,7,7,7;w1", 5, 1, 2);
        Checks.dueChance("6,6,6,6;w1", 1, 6561, 10000);
        Checks.dueChance("6,6,6,6;w1", 9, 1, 10000);
        Checks.dueChance("6,6,6,6;w1", 8, 1, 625);
        Checks.dueChance("7,7,7,6;w1", 6, 2, 5);

        Checks.promise("25 floods: each ARCH loses 5 STONES (0 at least), apart");
        Checks.dueChance("0,1,4,5!a;w1a", 5, 1, 1);
        Checks.dueChance("40,5,40,40;d1", 10, 0, 1);
        Checks.dueChance("40,6,40,40;d1", 10, 1, 1);
        // Stones 2 2 2 1 by a duke that is refused, if all are gone; a walker falls then by arch 3.
        Checks.dueChance("5,5,5,5!a;d1a,w1", 10, 0, 1);
        Checks.dueChance("5,5,5,5!a;d1a,c1a,w1", 10, 1, 1);

        Checks.promise("25 floods: in the next DAY alone");
        Checks.dueChance("7,7,7,7;w1,w2,w2a", 10, 0, 1);
        Checks.dueChance("7,7,7,7;w1", 3, 1, 1);
        RefusedStones x = Checks.built("7,7,7,7;w2");
        x.days(1);
        Checks.due("nobody comes", x.floods(10, 0), 1);
        x.days(1);
        Checks.due("he does", x.floods(10, 0), 0);
        Checks.due("of 1", x.floods(10, 1), 1);
    }

    private static void images() {
        Checks.promise("27 restore: NONE: there is none; it changes nothing");
        String before = State.of(sixAndNoImage());
        RefusedStones x = sixAndNoImage();
        Checks.due("restore()", x.restore(), -4);
        Checks.due("changes nothing", State.of(x).equals(before));

        Checks.promise("26 image, 27 restore: all but SHEETS, THE TAPE; what may be UNDONE, too; again and again");
        String then = State.of(sixAndNoImage());
        RefusedStones y = sixAndNoImage();
        Checks.due("image()", y.image(), 1);
        for (int round = 0; round < 3; round++) {
            y.seed(1);
            y.drift(9);
            y.list(62);
            Checks.due("a bridge", Checks.bridge(y, "1,2,3,4;w1"), 1);
            y.days(3);
            Checks.due("restore()", y.restore(), 1);
        }
        Checks.due("as it was then", withoutImage(State.of(y)).equals(withoutImage(then)));

        Checks.promise("26 image: another one takes its place; 8 are known in it, too");
        RefusedStones z = new RefusedStones();
        z.image();
        for (int k = 1; k <= 9; k++) {
            z.list(k);
        }
        Checks.due("image()", z.image(), 1);
        z.traveller(0, 0, 1);
        Checks.due("none is known", z.undo(), -4);
        z.restore();
        Checks.due("nobody", z.count(0), 0);
        for (int k = 7; k >= 0; k--) {
            Checks.due("undo()", z.undo(), k);
        }
        Checks.due("the first is lost", z.count(2), 1);
        z.restore();
        Checks.due("the image was not undone", z.count(2), 9);

        Checks.promise("26 image: SHEETS, THE TAPE stay as they are, whatever is restored");
        RefusedStones u = new RefusedStones();
        u.type('1');
        u.sheet(0, 0, 3);
        u.image();
        u.type('2');
        u.drop(0);
        u.sheet(1, 1, 5);
        u.restore();
        Checks.due("the third letter", u.type('3'), 3);
        Checks.due("sheet 0", u.drop(0), -11);
        Checks.due("sheet 1", u.drop(1), 5);
    }

    private static RefusedStones sixAndNoImage() {
        RefusedStones x = Checks.built("9,9,9,9!b;w1,c2b,b3,d4,t5,w6");
        x.days(3);
        x.list(5);
        x.seed(99);
        x.mend(2, 4);
        return x;
    }

    /** What is told ahead of the image: the rest tells what comes by restore. */
    private static String withoutImage(String state) {
        int at = state.indexOf("restore");
        return at < 0 ? state : state.substring(0, at);
    }
}
