/**
 * BAD, of each number of each call: the least and the greatest one that are as told, the next ones to these, and far
 * ones; what is refused changes nothing; and BAD is ahead of all others.
 */
final class NumbersTest {
    private static final int LOW = Integer.MIN_VALUE;
    private static final int HIGH = Integer.MAX_VALUE;

    private interface Call {
        int on(RefusedStones x, int v);
    }

    private NumbersTest() {
    }

    public static void main(String[] args) {
        travellersAndArches();
        whatIsDone();
        foretold();
        seenRows();
        sheets();
        badAheadOfFull();
        badAheadOfNotAndNone();
        badAheadOfWhatTheMachineFinds();
        Checks.end();
    }

    /** 5 TRAVELLERS, something of all that can be known, and sheets 0 .. 3, each a row of the lane of its number. */
    private static RefusedStones prepared() {
        RefusedStones x = Checks.built("20,15,10,25!bd;w1ab,c2b,b1d,d3,t2");
        x.days(2);
        x.list(9);
        x.seed(77);
        x.mend(0, 3);
        x.image();
        x.drift(1);
        x.flood(1);
        for (int s = 0; s < 4; s++) {
            x.sheet(s, s, 24);
            x.film(s, 24, s, s, 0);
        }
        x.film(0, 1, 0, 0, 0);
        for (char letter : "1,2,3,4!f;w7".toCharArray()) {
            x.type(letter);
        }
        return x;
    }

    private static void number(String name, int low, int high, Call call) {
        Checks.promise(name + " " + low + " .. " + high);
        Checks.due("the least one, " + low + ", is as told", call.on(prepared(), low) != -1);
        Checks.due("the greatest one, " + high + ", is as told", call.on(prepared(), high) != -1);
        String before = State.of(prepared());
        for (long v : new long[] {low - 1L, high + 1L, LOW, HIGH}) {
            if (v >= LOW && v <= HIGH && (v < low || v > high)) {
                RefusedStones x = prepared();
                Checks.due("" + v, call.on(x, (int) v), -1);
                Checks.due(v + " changes nothing", State.of(x).equals(before));
            }
        }
    }

    private static void travellersAndArches() {
        number("2 traveller, BAD: kind", 0, 4, (x, v) -> x.traveller(v, 0, 1));
        number("2 traveller, BAD: looks", 0, 63, (x, v) -> x.traveller(0, v, 1));
        number("2 traveller, BAD: every", 1, 9, (x, v) -> x.traveller(0, 0, v));
        number("3 of, BAD: traveller (there is no such thing)", 0, 4, (x, v) -> x.of(v, 2));
        number("3 of, BAD: what", 0, 5, (x, v) -> x.of(0, v));
        number("4 wears, BAD: traveller (there is no such thing)", 0, 4, (x, v) -> x.wears(v, 0));
        number("4 wears, BAD: arch", 0, 3, (x, v) -> x.wears(0, v));
        number("5 stones, BAD: arch", 0, 3, (x, v) -> x.stones(v));
        number("6 type, BAD: not", 32, 126, (x, v) -> x.type(v));
        number("8 count, BAD: what", 0, 8, (x, v) -> x.count(v));
    }

    private static void whatIsDone() {
        number("9 days, BAD: n", 1, 40, (x, v) -> x.days(v));
        number("10 list, BAD: looks", 0, 63, (x, v) -> x.list(v));
        number("11 mend, BAD: arch", 0, 3, (x, v) -> x.mend(v, 1));
        number("11 mend, BAD: n", 1, 40, (x, v) -> x.mend(1, v));
        number("12 flood, BAD: n", 1, 40, (x, v) -> x.flood(v));
        number("13 drift, BAD: n", 1, 40, (x, v) -> x.drift(v));
        number("15 seed, BAD: below 0, not", 0, HIGH, (x, v) -> x.seed(v));
    }

    private static void foretold() {
        number("16 ahead, BAD: arch", 0, 3, (x, v) -> x.ahead(v, 7));
        number("16 ahead, BAD: n", 0, 60, (x, v) -> x.ahead(2, v));
        number("17 then, BAD: n", 0, 60, (x, v) -> x.then(v, 1));
        number("17 then, BAD: what", 0, 2, (x, v) -> x.then(7, v));
        number("19 first, BAD: traveller (there is no such thing)", 0, 4, (x, v) -> x.first(v));
        number("20 wise, BAD: n", 1, 40, (x, v) -> x.wise(v, 0));
        number("20 wise, BAD: what", 0, 2, (x, v) -> x.wise(7, v));
        number("21 more, BAD: n", 1, 40, (x, v) -> x.more(v));
        number("22 less, BAD: n", 1, 40, (x, v) -> x.less(v));
        number("23 stands, BAD: looks", 0, 63, (x, v) -> x.stands(v));
        number("24 bears, BAD: n", 1, 40, (x, v) -> x.bears(v));
        number("25 floods, BAD: c", 0, 10, (x, v) -> x.floods(v, 1));
        number("25 floods, BAD: what", 0, 1, (x, v) -> x.floods(3, v));
    }

    private static void seenRows() {
        number("28 lists, BAD: arch", 0, 3, (x, v) -> x.lists(v, 1, 1, 0, 2, 0));
        number("28 lists, BAD: sheet", 0, 3, (x, v) -> x.lists(0, v, 1, 0, 2, 0));
        number("28 lists, BAD: lane", 0, 3, (x, v) -> x.lists(0, 1, v, 0, 2, 0));
        number("28 lists, BAD: n", 1, 8, (x, v) -> x.lists(0, 1, 1, 0, v, 0));
        number("28 lists, BAD: what", 0, 1, (x, v) -> x.lists(0, 1, 1, 0, 2, v));
        number("29 seen, BAD: arch", 0, 3, (x, v) -> x.seen(v, 0, 1, 1, 0, 2, 0));
        number("29 seen, BAD: traveller (there is no such thing)", 0, 4, (x, v) -> x.seen(0, v, 1, 1, 0, 2, 0));
        number("29 seen, BAD: sheet", 0, 3, (x, v) -> x.seen(0, 0, v, 1, 0, 2, 0));
        number("29 seen, BAD: lane", 0, 3, (x, v) -> x.seen(0, 0, 1, v, 0, 2, 0));
        number("29 seen, BAD: n", 1, 8, (x, v) -> x.seen(0, 0, 1, 1, 0, v, 0));
        number("29 seen, BAD: what", 0, 1, (x, v) -> x.seen(0, 0, 1, 1, 0, 2, v));
        number("30 film, BAD: arch", 0, 3, (x, v) -> x.film(v, 2, 1, 1, 0));
        number("30 film, BAD: n", 1, 24, (x, v) -> x.film(0, v, 1, 1, 0));
        number("30 film, BAD: sheet", 0, 3, (x, v) -> x.film(0, 2, v, 1, 0));
        number("30 film, BAD: lane", 0, 3, (x, v) -> x.film(0, 2, 1, v, 0));
    }

    private static void sheets() {
        number("31 sheet, BAD: sheet", 0, 3, (x, v) -> x.sheet(v, 1, 2));
        number("31 sheet, BAD: lane", 0, 3, (x, v) -> x.sheet(1, v, 2));
        number("31 sheet, BAD: n above 24, not (SIZE below 0)", LOW, 24, (x, v) -> x.sheet(1, 1, v));
        number("32 drop, BAD: sheet", 0, 3, (x, v) -> x.drop(v));
        number("33 item, BAD: sheet", 0, 3, (x, v) -> x.item(v, 1, 0, 5));
        number("33 item, BAD: lane", 0, 3, (x, v) -> x.item(1, v, 0, 5));
        number("34 copy, BAD: from", 0, 3, (x, v) -> x.copy(v, 0, 1, 1, 2));
        number("34 copy, BAD: to", 0, 3, (x, v) -> x.copy(1, 0, v, 1, 2));
    }

    private static void badAheadOfFull() {
        Checks.promise("terms: BAD ahead of FULL");
        RefusedStones x = prepared();
        x.traveller(0, 0, 1);
        Checks.due("FULL alone", x.traveller(0, 0, 1), -3);
        Checks.due("traveller: kind", x.traveller(5, 0, 1), -1);
        Checks.due("traveller: looks", x.traveller(0, 64, 1), -1);
        Checks.due("traveller: every", x.traveller(0, 0, 0), -1);
        for (int k = 0; k < 80; k++) {
            x.type(' ');
        }
        Checks.due("FULL alone", x.type(32), -3);
        Checks.due("type: below", x.type(31), -1);
        Checks.due("type: above", x.type(127), -1);
        RefusedStones late = new RefusedStones();
        for (int k = 0; k < 249; k++) {
            late.days(40);
        }
        late.days(39);
        Checks.due("FULL alone", late.days(1), -3);
        Checks.due("days: below", late.days(0), -1);
        Checks.due("days: above", late.days(41), -1);
        Checks.due("days: far above", late.days(HIGH), -1);
        Checks.due("FULL alone", late.drift(1), -3);
        Checks.due("drift: below", late.drift(0), -1);
        Checks.due("drift: above", late.drift(41), -1);
        Checks.due("drift: far above", late.drift(HIGH), -1);
    }

    private static void badAheadOfNotAndNone() {
        Checks.promise("terms: BAD ahead of NOT, NONE");
        RefusedStones x = Checks.built("40,40,40,40!abcdef");
        Checks.due("NOT alone", x.mend(0, 1), -2);
        Checks.due("mend: below", x.mend(0, 0), -1);
        Checks.due("mend: above", x.mend(0, 41), -1);
        Checks.due("NONE alone", x.more(1), -4);
        Checks.due("more: below", x.more(0), -1);
        Checks.due("more: above", x.more(41), -1);
        x.list(0);
        Checks.due("NONE alone", x.less(1), -4);
        Checks.due("less: below", x.less(0), -1);
        Checks.due("less: above", x.less(41), -1);
        Checks.due("NONE alone", x.stands(0), -4);
        Checks.due("stands: below", x.stands(-1), -1);
        Checks.due("stands: above", x.stands(64), -1);
        Checks.due("first: nobody at all", x.first(0), -1);
        RefusedStones y = Checks.built("1,1,1,1;w1");
        Checks.due("NONE alone", y.bears(1), -4);
        Checks.due("bears: below", y.bears(0), -1);
        Checks.due("bears: above", y.bears(41), -1);
    }

    /** Each bad number of a call that has a row, where the row itself would be refused as well. */
    private static void dueBad(String when, RefusedStones x, int s, int lane, int i) {
        Checks.due(when + "lists: arch", x.lists(4, s, lane, i, 1, 0), -1);
        Checks.due(when + "lists: n", x.lists(0, s, lane, i, 9, 0), -1);
        Checks.due(when + "lists: n", x.lists(0, s, lane, i, 0, 0), -1);
        Checks.due(when + "lists: what", x.lists(0, s, lane, i, 1, 2), -1);
        Checks.due(when + "lists: lane", x.lists(0, s, 4, i, 1, 0), -1);
        Checks.due(when + "seen: arch", x.seen(-1, 0, s, lane, i, 1, 0), -1);
        Checks.due(when + "seen: traveller", x.seen(0, 5, s, lane, i, 1, 0), -1);
        Checks.due(when + "seen: n", x.seen(0, 0, s, lane, i, 0, 0), -1);
        Checks.due(when + "seen: what", x.seen(0, 0, s, lane, i, 1, -1), -1);
        Checks.due(when + "seen: lane", x.seen(0, 0, s, -1, i, 1, 0), -1);
        Checks.due(when + "film: arch", x.film(4, 1, s, lane, i), -1);
        Checks.due(when + "film: n", x.film(0, 25, s, lane, i), -1);
        Checks.due(when + "film: n", x.film(0, 0, s, lane, i), -1);
        Checks.due(when + "film: lane", x.film(0, 1, s, 4, i), -1);
        Checks.due(when + "item: lane", x.item(s, 4, i, 1), -1);
    }

    private static void badAheadOfWhatTheMachineFinds() {
        Checks.promise("terms: BAD ahead of NULL, CAST, INDEX, SIZE");
        RefusedStones x = prepared();
        x.drop(2);
        Checks.due("NULL alone", x.lists(0, 2, 2, -1, 1, 0), -11);
        dueBad("nothing is there, ", x, 2, 2, -1);
        Checks.due("CAST alone", x.lists(0, 1, 0, -1, 1, 0), -12);
        dueBad("another lane, ", x, 1, 0, -1);
        Checks.due("INDEX alone", x.lists(0, 1, 1, 24, 1, 0), -13);
        dueBad("no such item, ", x, 1, 1, 24);
        Checks.due("copy: NULL alone", x.copy(2, 0, 1, 0, 1), -11);
        Checks.due("copy: to", x.copy(2, 0, 4, 0, 1), -1);
        Checks.due("copy: from", x.copy(4, 0, 2, 0, 1), -1);
        Checks.due("copy: INDEX alone", x.copy(1, -1, 1, -1, -1), -13);
        Checks.due("copy: to, no such item", x.copy(1, -1, -1, -1, -1), -1);
        Checks.due("copy: from, no such item", x.copy(-1, -1, 1, -1, -1), -1);
        Checks.due("sheet: SIZE alone", x.sheet(1, 1, -1), -14);
        Checks.due("sheet: sheet", x.sheet(4, 1, -1), -1);
        Checks.due("sheet: lane", x.sheet(1, 4, -1), -1);
        Checks.due("sheet: below them", x.sheet(-1, -1, LOW), -1);
    }
}
