import java.util.Random;

/** Long runs of calls by fixed seeds: the class answers as the oracle does, and throws nothing. */
final class OracleTest {
    private static final int[] EDGES = {Integer.MIN_VALUE, Integer.MIN_VALUE + 1, -100, -21, -2, -1, 64, 100, 9999,
        Integer.MAX_VALUE - 1, Integer.MAX_VALUE};

    private final Random random;
    private final boolean wild;
    private RefusedStones x;
    private Oracle o;
    private String call;
    private long got;
    private long want;

    private OracleTest(long seed, boolean wild) {
        random = new Random(seed);
        this.wild = wild;
    }

    public static void main(String[] args) {
        Checks.promise("1 to 34: runs of calls answer as the oracle does");
        for (int seed = 0; seed < 400; seed++) {
            new OracleTest(seed, false).run(seed, 512);
        }
        Checks.promise("1 to 34: runs of calls with many wrong numbers");
        for (int seed = 0; seed < 100; seed++) {
            new OracleTest(1000 + seed, true).run(seed, 512);
        }
        Checks.promise("7 bridge: TEXTS, whole ones and broken ones");
        OracleTest texts = new OracleTest(5, false);
        for (int k = 0; k < 20000; k++) {
            texts.aText();
        }
        Checks.promise("9, 13: the last days");
        for (int seed = 0; seed < 20; seed++) {
            new OracleTest(2000 + seed, false).runLate(seed);
        }
        Checks.end();
    }

    private void run(int seed, int calls) {
        x = new RefusedStones();
        o = new Oracle();
        for (int k = 0; k < calls; k++) {
            step();
            Checks.due("run " + seed + ", call " + k + " " + call, got, want);
            if (got != want) {
                return;
            }
        }
    }

    private void runLate(int seed) {
        x = new RefusedStones();
        o = new Oracle();
        for (int k = 0; k < 249; k++) {
            x.days(40);
            o.days(40);
        }
        for (int k = 0; k < 200; k++) {
            step();
            Checks.due("late run " + seed + ", call " + k + " " + call, got, want);
        }
    }

    private void aText() {
        String text = text();
        RefusedStones y = new RefusedStones();
        Oracle p = new Oracle();
        for (int i = 0; i < text.length(); i++) {
            y.type(text.charAt(i));
            p.type(text.charAt(i));
        }
        Checks.due("bridge of '" + text + "'", y.bridge(), p.bridge());
        for (int what = 0; what < 9; what++) {
            Checks.due("count(" + what + ") by '" + text + "'", y.count(what), p.count(what));
        }
        for (int t = 0; t < 6; t++) {
            for (int what = 0; what < 3; what++) {
                Checks.due("of(" + t + ", " + what + ") by '" + text + "'", y.of(t, what), p.of(t, what));
            }
        }
    }

    /** A number from low to high; at times one that is out of them. */
    private int number(int low, int high) {
        int dice = random.nextInt(wild ? 6 : 60);
        if (dice == 0) {
            return EDGES[random.nextInt(EDGES.length)];
        }
        if (dice == 1) {
            return random.nextBoolean() ? low - 1 : high + 1;
        }
        return low + random.nextInt(high - low + 1);
    }

    private String looks() {
        StringBuilder s = new StringBuilder();
        for (char c = 'a'; c <= 'f'; c++) {
            if (random.nextInt(4) == 0) {
                s.append(c);
            }
        }
        return s.toString();
    }

    private String text() {
        StringBuilder s = new StringBuilder();
        int top = random.nextInt(8) == 0 ? 46 : 41;
        for (int a = 0; a < 4; a++) {
            s.append(a > 0 ? "," : "").append(random.nextInt(6) == 0 ? "0" : "").append(random.nextInt(top));
        }
        String listed = looks();
        if (!listed.isEmpty() || random.nextInt(20) == 0) {
            s.append('!').append(listed);
        }
        int many = random.nextInt(7);
        for (int t = 0; t < many; t++) {
            s.append(t == 0 ? ';' : ',').append("wcbdt".charAt(random.nextInt(5)))
                .append(1 + random.nextInt(random.nextBoolean() ? 9 : 3)).append(looks());
        }
        if (random.nextInt(3) == 0) {
            int faults = 1 + random.nextInt(2);
            for (int k = 0; k < faults; k++) {
                spoil(s);
            }
        }
        int blanks = random.nextInt(3) == 0 ? random.nextInt(5) : 0;
        for (int k = 0; k < blanks; k++) {
            s.insert(random.nextInt(s.length() + 1), ' ');
        }
        return s.length() > 80 ? s.substring(0, 80) : s.toString();
    }

    private void spoil(StringBuilder s) {
        char letter = ",!; 0149abfgwcbdtxA~-".charAt(random.nextInt(21));
        int at = random.nextInt(s.length() + 1);
        int how = random.nextInt(4);
        if (how == 0 || s.length() == 0) {
            s.insert(at, letter);
        } else if (how == 1) {
            s.setCharAt(Math.min(at, s.length() - 1), letter);
        } else if (how == 2) {
            s.deleteCharAt(Math.min(at, s.length() - 1));
        } else {
            s.setLength(at);
        }
    }

    private void said(String name, long itsAnswer, long itsDue, long... args) {
        StringBuilder s = new StringBuilder(name);
        for (long arg : args) {
            s.append(' ').append(arg);
        }
        call = s.toString();
        got = itsAnswer;
        want = itsDue;
    }

    private void typeAll(String text) {
        call = "text '" + text + "'";
        got = 0;
        want = 0;
        for (int i = 0; i < text.length() && got == want; i++) {
            got = x.type(text.charAt(i));
            want = o.type(text.charAt(i));
        }
        if (got == want && random.nextInt(20) != 0) {
            got = x.bridge();
            want = o.bridge();
        }
    }

    private void step() {
        int dice = random.nextInt(100);
        if (dice < 38) {
            stepDone(dice);
        } else if (dice < 70) {
            stepForetold();
        } else {
            stepSheets();
        }
    }

    private void stepDone(int dice) {
        int a;
        int b;
        int c;
        switch (dice) {
            case 0: case 1:
                said("traveller", x.traveller(a = number(0, 4), b = number(0, 63), c = number(1, 9)),
                    o.traveller(a, b, c), a, b, c);
                break;
            case 2:
                typeAll(text());
                break;
            case 3: case 4: case 5:
                said("of", x.of(a = number(0, 5), b = number(0, 5)), o.of(a, b), a, b);
                break;
            case 6: case 7:
                said("wears", x.wears(a = number(0, 5), b = number(0, 3)), o.wears(a, b), a, b);
                break;
            case 8: case 9: case 10:
                said("stones", x.stones(a = number(0, 3)), o.stones(a), a);
                break;
            case 11:
                said("type", x.type(a = number(32, 126)), o.type(a), a);
                break;
            case 12: case 13: case 14: case 15: case 16:
                said("count", x.count(a = number(0, 8)), o.count(a), a);
                break;
            case 17: case 18: case 19:
                said("days", x.days(a = number(1, random.nextBoolean() ? 2 : 40)), o.days(a), a);
                break;
            case 20: case 21:
                said("list", x.list(a = number(0, 63)), o.list(a), a);
                break;
            case 22: case 23: case 24:
                said("mend", x.mend(a = number(0, 3), b = number(1, 40)), o.mend(a, b), a, b);
                break;
            case 25:
                said("flood", x.flood(a = number(1, random.nextBoolean() ? 3 : 40)), o.flood(a), a);
                break;
            case 26: case 27: case 28:
                said("drift", x.drift(a = number(1, random.nextBoolean() ? 2 : 40)), o.drift(a), a);
                break;
            case 29: case 30: case 31: case 32: case 33:
                said("undo", x.undo(), o.undo());
                break;
            case 34: case 35:
                said("seed", x.seed(a = random.nextInt()), o.seed(a), a);
                break;
            case 36:
                said("image", x.image(), o.image());
                break;
            default:
                said("restore", x.restore(), o.restore());
                break;
        }
    }

    private void stepForetold() {
        int a;
        int b;
        switch (random.nextInt(11)) {
            case 0:
                said("ahead", x.ahead(a = number(0, 3), b = number(0, 60)), o.ahead(a, b), a, b);
                break;
            case 1: case 2:
                said("then", x.then(a = number(0, 60), b = number(0, 2)), o.then(a, b), a, b);
                break;
            case 3:
                said("hole", x.hole(), o.hole());
                break;
            case 4:
                said("first", x.first(a = number(0, 5)), o.first(a), a);
                break;
            case 5:
                said("wise", x.wise(a = number(1, 40), b = number(0, 2)), o.wise(a, b), a, b);
                break;
            case 6:
                said("more", x.more(a = number(1, 40)), o.more(a), a);
                break;
            case 7:
                said("less", x.less(a = number(1, 40)), o.less(a), a);
                break;
            case 8:
                said("stands", x.stands(a = number(0, 63)), o.stands(a), a);
                break;
            case 9:
                said("bears", x.bears(a = number(1, random.nextBoolean() ? 5 : 40)), o.bears(a), a);
                break;
            default:
                said("floods", x.floods(a = number(0, 10), b = number(0, 1)), o.floods(a, b), a, b);
                break;
        }
    }

    private void stepSheets() {
        int a = number(0, 3);
        int s = number(0, random.nextInt(4) == 0 ? 3 : 1);
        int lane = number(0, random.nextInt(4) == 0 ? 3 : 0);
        int i = number(0, random.nextBoolean() ? 3 : 24);
        int n;
        int b;
        switch (random.nextInt(16)) {
            case 0: case 1: case 2:
                said("lists", x.lists(a, s, lane, i, n = number(1, random.nextBoolean() ? 3 : 8), b = number(0, 1)),
                    o.lists(a, s, lane, i, n, b), a, s, lane, i, n, b);
                break;
            case 3: case 4: case 5:
                int t = number(0, 5);
                said("seen", x.seen(a, t, s, lane, i, n = number(1, random.nextBoolean() ? 3 : 8), b = number(0, 1)),
                    o.seen(a, t, s, lane, i, n, b), a, t, s, lane, i, n, b);
                break;
            case 6: case 7: case 8: case 9:
                said("film", x.film(a, n = number(1, random.nextBoolean() ? 24 : 8), s, lane, i),
                    o.film(a, n, s, lane, i), a, n, s, lane, i);
                break;
            case 10: case 11:
                said("sheet", x.sheet(s, lane, n = number(0, 24)), o.sheet(s, lane, n), s, lane, n);
                break;
            case 12:
                said("drop", x.drop(s), o.drop(s), s);
                break;
            case 13:
                long v = random.nextInt(3) == 0 ? random.nextLong() : number(0, 40);
                said("item", x.item(s, lane, i, v), o.item(s, lane, i, v), s, lane, i, v);
                break;
            default:
                int to = number(0, 1);
                int j = number(0, 12);
                said("copy", x.copy(s, i, to, j, n = number(0, 12)), o.copy(s, i, to, j, n), s, i, to, j, n);
                break;
        }
    }
}
