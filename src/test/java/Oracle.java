import java.util.ArrayDeque;
import java.util.ArrayList;
import java.util.Arrays;
import java.util.Deque;
import java.util.List;
import java.util.function.Predicate;
import java.util.regex.Matcher;
import java.util.regex.Pattern;

/**
 * The document told a second time, in another way: kinds as classes below one another, whole copies for all that is
 * foretold, UNDONE or kept, a pattern for the TEXT.
 */
final class Oracle {
    private static final int BAD = -1, NOT = -2, FULL = -3, NONE = -4, NULL = -11, CAST = -12, INDEX = -13, SIZE = -14;

    private static class Walker {
        int wears(int arch, long day) {
            return 1;
        }

        int gives(long day) {
            return 1;
        }
    }

    private static class Carter extends Walker {
        @Override
        int wears(int arch, long day) {
            return 2 * super.wears(arch, day);
        }

        @Override
        int gives(long day) {
            return super.gives(day) + 1;
        }
    }

    private static class Beggar extends Walker {
        @Override
        int gives(long day) {
            return day % 2 == 1 ? 0 : super.gives(day);
        }
    }

    private static class Duke extends Carter {
        @Override
        int wears(int arch, long day) {
            return arch % 2 == 1 ? 0 : super.wears(arch, day);
        }

        @Override
        int gives(long day) {
            return 3 * super.gives(day);
        }
    }

    private static class Thief extends Beggar {
        @Override
        int wears(int arch, long day) {
            return super.wears(arch, day) + (day % 4 == arch ? 1 : 0);
        }

        @Override
        int gives(long day) {
            int g = super.gives(day) - 1;
            return g < 0 ? 0 : g;
        }
    }

    private static Walker kindOf(int kind) {
        switch (kind) {
            case 0: return new Walker();
            case 1: return new Carter();
            case 2: return new Beggar();
            case 3: return new Duke();
            default: return new Thief();
        }
    }

    private record Person(int kind, int looks, int every) {
    }

    /** One bridge with its past; copied whole. */
    private static final class State {
        int[] heap = {10, 10, 10, 10};
        int listed = 0;
        int day = 0;
        int over = 0;
        int refused = 0;
        int fell = 0;
        long draw = 1;
        List<Person> people = new ArrayList<>();
        Deque<State> past = new ArrayDeque<>();
        List<Integer> fallenToday = new ArrayList<>();

        State copy() {
            State s = new State();
            s.heap = heap.clone();
            s.listed = listed;
            s.day = day;
            s.over = over;
            s.refused = refused;
            s.fell = fell;
            s.draw = draw;
            s.people = new ArrayList<>(people);
            // What is past is never changed itself.
            s.past = new ArrayDeque<>(past);
            return s;
        }

        void remember() {
            State s = copy();
            s.past = new ArrayDeque<>();
            past.addLast(s);
            while (past.size() > 8) {
                past.removeFirst();
            }
        }

        State undone() {
            State s = past.removeLast().copy();
            s.past = past;
            s.people = people;
            return s;
        }

        State live(int n) {
            for (int k = 0; k < n; k++) {
                aDay();
            }
            return this;
        }

        void aDay() {
            fallenToday.clear();
            for (int t = 0; t < people.size(); t++) {
                Person p = people.get(t);
                if (day % p.every() != 0) {
                    continue;
                }
                Walker kind = kindOf(p.kind());
                boolean named = false;
                for (int look = 0; look < 6; look++) {
                    named |= (p.looks() >> look) % 2 == 1 && (listed >> look) % 2 == 1;
                }
                if (named) {
                    refused++;
                    for (int g = kind.gives(day); g > 0; g--) {
                        int least = Arrays.stream(heap).min().getAsInt();
                        int arch = 0;
                        while (heap[arch] != least) {
                            arch++;
                        }
                        heap[arch] = Math.min(40, least + 1);
                    }
                } else {
                    int arch = 0;
                    while (arch < 4 && heap[arch] > kind.wears(arch, day)) {
                        heap[arch] -= kind.wears(arch, day);
                        arch++;
                    }
                    if (arch == 4) {
                        over++;
                    } else {
                        heap[arch] = 0;
                        fell++;
                        fallenToday.add(t);
                    }
                }
            }
            day++;
        }

        void drawn() {
            draw = Math.floorMod(Math.multiplyExact(draw, 1103515245L) + 12345L, 1L << 31);
            if (draw / 65536 % 5 == 0) {
                listed = listed ^ (1 << (int) (draw / 128 % 6));
            }
        }

        void flooded(int n) {
            for (int a = 0; a < 4; a++) {
                heap[a] = heap[a] < n ? 0 : heap[a] - n;
            }
        }

        boolean hasHole() {
            return Arrays.stream(heap).anyMatch(h -> h == 0);
        }

        int holes() {
            int set = 0;
            for (int a = 3; a >= 0; a--) {
                set = 2 * set + (heap[a] == 0 ? 1 : 0);
            }
            return set;
        }

        State listed(int l) {
            State s = copy();
            s.listed = l;
            return s;
        }
    }

    private State now = new State();
    private State kept = null;
    private String tape = "";
    private final int[] lanes = {-1, -1, -1, -1};
    private final long[][] rows = new long[4][];

    private static boolean in(long v, long low, long high) {
        return low <= v && v <= high;
    }

    private boolean isPerson(int t) {
        return in(t, 0, now.people.size() - 1);
    }

    int traveller(int kind, int looks, int every) {
        if (!in(kind, 0, 4) || !in(looks, 0, 63) || !in(every, 1, 9)) return BAD;
        if (now.people.size() == 6) return FULL;
        now.people.add(new Person(kind, looks, every));
        now.past.clear();
        return now.people.size() - 1;
    }

    int of(int t, int what) {
        if (!isPerson(t) || !in(what, 0, 5)) return BAD;
        Person p = now.people.get(t);
        int[] all = {p.kind(), p.looks(), p.every(), now.day % p.every() == 0 ? 1 : 0,
            (p.looks() & now.listed) != 0 ? 1 : 0, kindOf(p.kind()).gives(now.day)};
        return all[what];
    }

    int wears(int t, int arch) {
        if (!isPerson(t) || !in(arch, 0, 3)) return BAD;
        return kindOf(now.people.get(t).kind()).wears(arch, now.day);
    }

    int stones(int arch) {
        return in(arch, 0, 3) ? now.heap[arch] : BAD;
    }

    int type(int letter) {
        if (!in(letter, 32, 126)) return BAD;
        if (tape.length() == 80) return FULL;
        tape += (char) letter;
        return tape.length();
    }

    private static final String NUMBER = " *([0-9]{1,2}) *";
    private static final String RISING = "a? *b? *c? *d? *e? *f? *";
    private static final String ONE = " *[wcbdt] *[1-9] *" + RISING;
    private static final Pattern TEXT = Pattern.compile(NUMBER + "," + NUMBER + "," + NUMBER + "," + NUMBER
        + "(! *(?=[a-f])(" + RISING + "))?(;(" + ONE + "(," + ONE + "){0,5}))?");

    /** -1, if it is a BRIDGE, else the place of its FAULT. */
    static int faultPlace(String text) {
        int place = -1;
        for (int n = 1; n <= text.length() && place < 0; n++) {
            Matcher m = TEXT.matcher(text.substring(0, n));
            if (!m.matches() && !m.hitEnd()) {
                place = n - 1;
            }
        }
        if (place < 0 && !TEXT.matcher(text).matches()) {
            place = text.length();
        }
        // The first number above 40 of those that are read by then.
        String read = place < 0 ? text : text.substring(0, place);
        int stop = read.length();
        for (char sign : new char[] {'!', ';'}) {
            stop = read.indexOf(sign) >= 0 ? Math.min(stop, read.indexOf(sign)) : stop;
        }
        Matcher number = Pattern.compile("[0-9]+").matcher(read.substring(0, stop));
        while (number.find()) {
            if (Integer.parseInt(number.group()) > 40) {
                return number.start();
            }
        }
        return place;
    }

    private static int looksOf(String letters) {
        return letters.chars().map(c -> 1 << (c - 'a')).sum();
    }

    int bridge() {
        String text = tape;
        tape = "";
        int place = faultPlace(text);
        if (place >= 0) return -20 - place;
        String[] halves = text.replace(" ", "").split(";");
        String[] ahead = halves[0].split("!");
        State s = new State();
        s.draw = now.draw;
        String[] numbers = ahead[0].split(",");
        for (int a = 0; a < 4; a++) s.heap[a] = Integer.parseInt(numbers[a]);
        s.listed = ahead.length > 1 ? looksOf(ahead[1]) : 0;
        if (halves.length > 1) {
            for (String one : halves[1].split(",")) {
                s.people.add(new Person("wcbdt".indexOf(one.charAt(0)), looksOf(one.substring(2)), one.charAt(1) - '0'));
            }
        }
        now = s;
        return s.people.size();
    }

    int count(int what) {
        if (!in(what, 0, 8)) return BAD;
        int[] all = {now.people.size(), now.day, now.listed, now.over, now.refused, now.fell,
            Arrays.stream(now.heap).sum(), now.holes(), now.past.size()};
        return all[what];
    }

    int days(int n) {
        if (!in(n, 1, 40)) return BAD;
        if (now.day + n > 9999) return FULL;
        int fell = now.fell;
        for (int k = 0; k < n; k++) {
            now.remember();
            now.aDay();
        }
        return now.fell - fell;
    }

    int list(int looks) {
        if (!in(looks, 0, 63)) return BAD;
        if (looks == now.listed) return NOT;
        now.remember();
        int was = now.listed;
        now.listed = looks;
        return was;
    }

    int mend(int arch, int n) {
        if (!in(arch, 0, 3) || !in(n, 1, 40)) return BAD;
        if (now.heap[arch] == 40) return NOT;
        now.remember();
        now.heap[arch] += n;
        if (now.heap[arch] > 40) now.heap[arch] = 40;
        return now.heap[arch];
    }

    int flood(int n) {
        if (!in(n, 1, 40)) return BAD;
        now.remember();
        now.flooded(n);
        return now.holes();
    }

    int drift(int n) {
        if (!in(n, 1, 40)) return BAD;
        if (now.day + n > 9999) return FULL;
        int fell = now.fell;
        for (int k = 0; k < n; k++) {
            now.remember();
            now.drawn();
            now.aDay();
        }
        return now.fell - fell;
    }

    int undo() {
        if (now.past.isEmpty()) return NONE;
        now = now.undone();
        return now.past.size();
    }

    int seed(int v) {
        if (v < 0) return BAD;
        int was = (int) now.draw;
        now.draw = v;
        return was;
    }

    int ahead(int arch, int n) {
        if (!in(arch, 0, 3) || !in(n, 0, 60)) return BAD;
        return now.copy().live(n).heap[arch];
    }

    int then(int n, int what) {
        if (!in(n, 0, 60) || !in(what, 0, 2)) return BAD;
        State s = now.copy().live(n);
        return new int[] {s.over, s.refused, s.fell}[what];
    }

    int hole() {
        return stands(now.listed);
    }

    int first(int t) {
        if (!isPerson(t)) return BAD;
        State s = now.copy();
        for (int d = 1; d <= 60; d++) {
            if (s.live(1).fallenToday.contains(t)) return d;
        }
        return NONE;
    }

    /** The best of what is offered, as {which, falls, overs}; null, if nothing is. */
    private int[] best(List<int[]> offers, int n) {
        List<int[]> all = new ArrayList<>();
        for (int[] offer : offers) {
            State s = now.listed(offer[1]).live(n);
            all.add(new int[] {offer[0], s.fell - now.fell, s.over - now.over});
        }
        all.sort((p, q) -> p[1] != q[1] ? p[1] - q[1] : p[2] != q[2] ? q[2] - p[2] : p[0] - q[0]);
        return all.isEmpty() ? null : all.get(0);
    }

    int wise(int n, int what) {
        if (!in(n, 1, 40) || !in(what, 0, 2)) return BAD;
        List<int[]> offers = new ArrayList<>();
        for (int l = 0; l < 64; l++) offers.add(new int[] {l, l});
        return best(offers, n)[what];
    }

    int more(int n) {
        if (!in(n, 1, 40)) return BAD;
        List<int[]> offers = new ArrayList<>();
        for (int look = 0; look < 6; look++) {
            if ((now.listed | 1 << look) != now.listed) offers.add(new int[] {look, now.listed | 1 << look});
        }
        int[] b = best(offers, n);
        return b == null ? NONE : b[0];
    }

    int less(int n) {
        if (!in(n, 1, 40)) return BAD;
        List<int[]> offers = new ArrayList<>();
        for (int look = 0; look < 6; look++) {
            if ((now.listed & ~(1 << look)) != now.listed) offers.add(new int[] {look, now.listed & ~(1 << look)});
        }
        int[] b = best(offers, n);
        return b == null ? NONE : b[0];
    }

    int stands(int looks) {
        if (!in(looks, 0, 63)) return BAD;
        for (int d = 0; d <= 60; d++) {
            if (now.listed(looks).live(d).hasHole()) return d;
        }
        return NONE;
    }

    int bears(int n) {
        if (!in(n, 1, 40)) return BAD;
        int great = NONE;
        for (int loss = 0; loss <= 40; loss++) {
            State s = now.copy();
            s.flooded(loss);
            if (s.live(n).fell == now.fell) great = loss;
        }
        return great;
    }

    int floods(int c, int what) {
        if (!in(c, 0, 10) || !in(what, 0, 1)) return BAD;
        int above = dry(now.copy(), 0, c);
        int below = 10000;
        for (int d = 10000; d > 1; d--) {
            if (above % d == 0 && below % d == 0) {
                above /= d;
                below /= d;
            }
        }
        return what == 0 ? above : below;
    }

    private static int dry(State s, int arch, int c) {
        if (arch == 4) {
            return s.live(1).fallenToday.isEmpty() ? 1 : 0;
        }
        State lost = s.copy();
        lost.heap[arch] = Math.max(0, lost.heap[arch] - 5);
        return c * dry(lost, arch + 1, c) + (10 - c) * dry(s.copy(), arch + 1, c);
    }

    int image() {
        kept = now.copy();
        return 1;
    }

    int restore() {
        if (kept == null) return NONE;
        now = kept.copy();
        return 1;
    }

    private int rowFault(int sheet, int lane, int i, int n) {
        if (rows[sheet] == null) return NULL;
        if (lanes[sheet] != lane) return CAST;
        if (i < 0 || (long) i + n > rows[sheet].length) return INDEX;
        return 0;
    }

    private static boolean shows(State s, int arch, long[] row, int i, int n) {
        for (int k = 0; k < n; k++) {
            s.aDay();
            if (s.heap[arch] != row[i + k]) return false;
        }
        return true;
    }

    int lists(int arch, int sheet, int lane, int i, int n, int what) {
        if (!in(arch, 0, 3) || !in(sheet, 0, 3) || !in(lane, 0, 3) || !in(n, 1, 8) || !in(what, 0, 1)) return BAD;
        int fault = rowFault(sheet, lane, i, n);
        if (fault != 0) return fault;
        List<Integer> found = new ArrayList<>();
        for (int l = 0; l < 64; l++) {
            if (shows(now.listed(l), arch, rows[sheet], i, n)) found.add(l);
        }
        return what == 0 ? found.size() : found.isEmpty() ? NONE : found.get(0);
    }

    int seen(int arch, int t, int sheet, int lane, int i, int n, int what) {
        if (!in(arch, 0, 3) || !isPerson(t) || !in(sheet, 0, 3) || !in(lane, 0, 3) || !in(n, 1, 8) || !in(what, 0, 1)) {
            return BAD;
        }
        int fault = rowFault(sheet, lane, i, n);
        if (fault != 0) return fault;
        Person p = now.people.get(t);
        Predicate<Person> fits = q -> {
            State s = now.copy();
            s.people.set(t, q);
            return shows(s, arch, rows[sheet], i, n);
        };
        int set = 0;
        if (what == 0) {
            for (int k = 0; k <= 4; k++) set += fits.test(new Person(k, p.looks(), p.every())) ? 1 << k : 0;
        } else {
            for (int e = 1; e <= 9; e++) set += fits.test(new Person(p.kind(), p.looks(), e)) ? 1 << e : 0;
        }
        return set;
    }

    int film(int arch, int n, int sheet, int lane, int i) {
        if (!in(arch, 0, 3) || !in(n, 1, 24) || !in(sheet, 0, 3) || !in(lane, 0, 3)) return BAD;
        int fault = rowFault(sheet, lane, i, n);
        if (fault != 0) return fault;
        for (int k = 1; k <= n; k++) rows[sheet][i + k - 1] = now.copy().live(k).heap[arch];
        return n;
    }

    int sheet(int sheet, int lane, int n) {
        if (!in(sheet, 0, 3) || !in(lane, 0, 3) || n > 24) return BAD;
        if (n < 0) return SIZE;
        lanes[sheet] = lane;
        rows[sheet] = new long[n];
        return n;
    }

    int drop(int sheet) {
        if (!in(sheet, 0, 3)) return BAD;
        if (rows[sheet] == null) return NULL;
        int n = rows[sheet].length;
        rows[sheet] = null;
        return n;
    }

    int item(int sheet, int lane, int i, long v) {
        if (!in(sheet, 0, 3) || !in(lane, 0, 3)) return BAD;
        int fault = rowFault(sheet, lane, i, 1);
        if (fault != 0) return fault;
        int spare = 64 - (8 << lane);
        rows[sheet][i] = v << spare >> spare;
        return 1;
    }

    int copy(int from, int i, int to, int j, int n) {
        if (!in(from, 0, 3) || !in(to, 0, 3)) return BAD;
        if (rows[from] == null || rows[to] == null) return NULL;
        if (lanes[from] != lanes[to]) return CAST;
        if (n < 0 || i < 0 || j < 0 || (long) i + n > rows[from].length || (long) j + n > rows[to].length) return INDEX;
        long[] taken = new long[n];
        for (int k = 0; k < n; k++) taken[k] = rows[from][i + k];
        for (int k = 0; k < n; k++) rows[to][j + k] = taken[k];
        return n;
    }
}
