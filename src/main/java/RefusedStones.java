/**
 * The bridge that is mended by whoever it's turned back: ARCHES by their STONES, TRAVELLERS of KINDS
 * by their LOOKS, THE LIST of LOOKS that are REFUSED; DAY by DAY, foretold, UNDONE.
 */
public final class RefusedStones {
    public static final int BAD = -1, NOT = -2, FULL = -3, NONE = -4, NULL = -11, CAST = -12, INDEX = -13, SIZE = -14;

    private static final int ARCHES = 4;
    private static final int MOST_STONES = 40;
    private static final int FIRST_STONES = 10;

    private static final int WALKER = 0, CARTER = 1, BEGGAR = 2, DUKE = 3, THIEF = 4;
    private static final int KINDS = 5;
    private static final String KIND_LETTERS = "wcbdt";
    private static final int MOST_TRAVELLERS = 6;
    private static final int MOST_EVERY = 9;

    private static final int LOOKS = 6;
    private static final int LISTS = 64;

    private static final int LAST_DAY = 9999;
    private static final int MOST_AT_ONCE = 40;
    private static final int FORESEEN = 60;
    private static final int KNOWN_PAST = 8;

    private static final int CHANCES = 10;
    private static final int CHANCE_LOSS = 5;

    private static final int TAPE_LETTERS = 80;
    private static final char TAPE_END = 0;
    private static final int FIRST_FAULT = -20;

    private static final int SHEETS = 4;
    private static final int LANES = 4;
    private static final int NO_LANE = -1;
    private static final int MOST_ITEMS = 24;
    private static final int MOST_SEEN = 8;
    private static final int FINE = 0;

    private final World world;
    private final World kept;
    private boolean isKept;
    private final Tape tape;
    private final Sheet[] sheets;
    // What is foretold is played on these three, so that no call makes anything.
    private final Moment fore;
    private final Crowd guess;
    private final Choice choice;

    public RefusedStones() {
        world = new World();
        kept = new World();
        isKept = false;
        tape = new Tape();
        sheets = new Sheet[SHEETS];
        for (int s = 0; s < SHEETS; s++) {
            sheets[s] = new Sheet();
        }
        fore = new Moment();
        guess = new Crowd();
        choice = new Choice();
    }

    // ---- 1 travellers, arches

    public int traveller(int kind, int looks, int every) {
        if (!isBelow(kind, KINDS) || !isBelow(looks, LISTS) || !isWithin(every, 1, MOST_EVERY)) {
            return BAD;
        }
        if (!world.crowd.hasRoom()) {
            return FULL;
        }
        world.crowd.join(kind, looks, every);
        world.forget();
        return world.crowd.size - 1;
    }

    public int of(int traveller, int what) {
        if (!isTraveller(traveller)) {
            return BAD;
        }
        Crowd crowd = world.crowd;
        Moment now = world.now;
        switch (what) {
            case 0:
                return crowd.kinds[traveller];
            case 1:
                return crowd.looks[traveller];
            case 2:
                return crowd.everies[traveller];
            case 3:
                return asNumber(crowd.comes(traveller, now.day));
            case 4:
                return asNumber(crowd.isRefused(traveller, now.listed));
            case 5:
                return given(crowd.kinds[traveller], now.day);
            default:
                return BAD;
        }
    }

    public int wears(int traveller, int arch) {
        if (!isTraveller(traveller) || !isBelow(arch, ARCHES)) {
            return BAD;
        }
        return worn(world.crowd.kinds[traveller], arch, world.now.day);
    }

    public int stones(int arch) {
        return isBelow(arch, ARCHES) ? world.now.heaps[arch] : BAD;
    }

    public int type(int letter) {
        if (!isWithin(letter, 32, 126)) {
            return BAD;
        }
        if (!tape.hasRoom()) {
            return FULL;
        }
        tape.append((char) letter);
        return tape.length;
    }

    public int bridge() {
        boolean whole = tape.reads(fore, guess);
        int place = tape.place;
        tape.clear();
        if (!whole) {
            return FIRST_FAULT - place;
        }
        world.begin(fore, guess);
        return world.crowd.size;
    }

    public int count(int what) {
        Moment now = world.now;
        switch (what) {
            case 0:
                return world.crowd.size;
            case 1:
                return now.day;
            case 2:
                return now.listed;
            case 3:
                return now.over;
            case 4:
                return now.refused;
            case 5:
                return now.fell;
            case 6:
                return now.allStones();
            case 7:
                return now.holes();
            case 8:
                return world.known;
            default:
                return BAD;
        }
    }

    // ---- what is done

    public int days(int n) {
        return live(n, false);
    }

    public int list(int looks) {
        if (!isBelow(looks, LISTS)) {
            return BAD;
        }
        int before = world.now.listed;
        if (before == looks) {
            return NOT;
        }
        world.remember();
        world.now.listed = looks;
        return before;
    }

    public int mend(int arch, int n) {
        if (!isBelow(arch, ARCHES) || !isWithin(n, 1, MOST_STONES)) {
            return BAD;
        }
        Moment now = world.now;
        if (now.heaps[arch] >= MOST_STONES) {
            return NOT;
        }
        world.remember();
        now.heaps[arch] = Math.min(MOST_STONES, now.heaps[arch] + n);
        return now.heaps[arch];
    }

    public int flood(int n) {
        if (!isWithin(n, 1, MOST_STONES)) {
            return BAD;
        }
        world.remember();
        world.now.loseAll(n);
        return world.now.holes();
    }

    public int drift(int n) {
        return live(n, true);
    }

    public int undo() {
        if (world.known == 0) {
            return NONE;
        }
        world.goBack();
        return world.known;
    }

    public int seed(int v) {
        if (v < 0) {
            return BAD;
        }
        int before = world.now.draw;
        world.now.draw = v;
        return before;
    }

    /** The DAYS of days and drift, which differ by the LOOK that is drawn ahead of each. */
    private int live(int n, boolean drifting) {
        if (!isWithin(n, 1, MOST_AT_ONCE)) {
            return BAD;
        }
        if (world.now.day + n > LAST_DAY) {
            return FULL;
        }
        int before = world.now.fell;
        for (int d = 0; d < n; d++) {
            world.remember();
            if (drifting) {
                world.now.drawLook();
            }
            world.now.pass(world.crowd);
        }
        return world.now.fell - before;
    }

    // ---- 2 foretold

    public int ahead(int arch, int n) {
        if (!isBelow(arch, ARCHES) || !isWithin(n, 0, FORESEEN)) {
            return BAD;
        }
        foretell(world.now.listed, n);
        return fore.heaps[arch];
    }

    public int then(int n, int what) {
        if (!isWithin(n, 0, FORESEEN) || !isBelow(what, 3)) {
            return BAD;
        }
        foretell(world.now.listed, n);
        switch (what) {
            case 0:
                return fore.over;
            case 1:
                return fore.refused;
            default:
                return fore.fell;
        }
    }

    public int hole() {
        return firstHole(world.now.listed);
    }

    public int first(int traveller) {
        if (!isTraveller(traveller)) {
            return BAD;
        }
        fore.take(world.now);
        for (int d = 1; d <= FORESEEN; d++) {
            int fallen = fore.pass(world.crowd);
            if (isIn(traveller, fallen)) {
                return d;
            }
        }
        return NONE;
    }

    public int wise(int n, int what) {
        if (!isWithin(n, 1, MOST_AT_ONCE) || !isBelow(what, 3)) {
            return BAD;
        }
        choice.clear();
        for (int listed = 0; listed < LISTS; listed++) {
            weigh(listed, listed, n);
        }
        switch (what) {
            case 0:
                return choice.which;
            case 1:
                return choice.falls;
            default:
                return choice.overs;
        }
    }

    public int more(int n) {
        return bestTurn(n, false);
    }

    public int less(int n) {
        return bestTurn(n, true);
    }

    public int stands(int looks) {
        return isBelow(looks, LISTS) ? firstHole(looks) : BAD;
    }

    public int bears(int n) {
        if (!isWithin(n, 1, MOST_AT_ONCE)) {
            return BAD;
        }
        for (int loss = MOST_STONES; loss >= 0; loss--) {
            fore.take(world.now);
            fore.loseAll(loss);
            if (nobodyFalls(n)) {
                return loss;
            }
        }
        return NONE;
    }

    public int floods(int c, int what) {
        if (!isWithin(c, 0, CHANCES) || !isBelow(what, 2)) {
            return BAD;
        }
        int above = 0;
        int below = 0;
        for (int set = 0; set < 1 << ARCHES; set++) {
            int weight = chance(set, c);
            below += weight;
            if (isDryAfter(set)) {
                above += weight;
            }
        }
        int shared = commonDivisor(above, below);
        if (shared < 1) {
            shared = 1;
        }
        return what == 0 ? above / shared : below / shared;
    }

    public int image() {
        kept.take(world);
        isKept = true;
        return 1;
    }

    public int restore() {
        if (!isKept) {
            return NONE;
        }
        world.take(kept);
        return 1;
    }

    private void foretell(int listed, int n) {
        fore.take(world.now);
        fore.listed = listed;
        for (int d = 0; d < n; d++) {
            fore.pass(world.crowd);
        }
    }

    /** Whether the next n DAYS of what is foretold let nobody fall. */
    private boolean nobodyFalls(int n) {
        for (int d = 0; d < n; d++) {
            if (fore.pass(world.crowd) != 0) {
                return false;
            }
        }
        return true;
    }

    private int firstHole(int listed) {
        fore.take(world.now);
        fore.listed = listed;
        for (int d = 0; d <= FORESEEN; d++) {
            if (fore.holes() != 0) {
                return d;
            }
            fore.pass(world.crowd);
        }
        return NONE;
    }

    private void weigh(int which, int listed, int n) {
        foretell(listed, n);
        choice.offer(which, fore.fell - world.now.fell, fore.over - world.now.over);
    }

    /** The LOOK that is best taken off THE LIST, or put on it, of those that are on it, or not. */
    private int bestTurn(int n, boolean isOn) {
        if (!isWithin(n, 1, MOST_AT_ONCE)) {
            return BAD;
        }
        int listed = world.now.listed;
        choice.clear();
        for (int look = 0; look < LOOKS; look++) {
            if (isIn(look, listed) == isOn) {
                weigh(look, listed ^ (1 << look), n);
            }
        }
        return choice.which;
    }

    /** How likely, in parts of 10 to the 4th, just this set of ARCHES loses STONES. */
    private static int chance(int set, int c) {
        int weight = 1;
        for (int a = 0; a < ARCHES; a++) {
            weight *= isIn(a, set) ? c : CHANCES - c;
        }
        return weight;
    }

    private boolean isDryAfter(int set) {
        fore.take(world.now);
        for (int a = 0; a < ARCHES; a++) {
            if (isIn(a, set)) {
                fore.lose(a, CHANCE_LOSS);
            }
        }
        return nobodyFalls(1);
    }

    private static int commonDivisor(int a, int b) {
        int big = b;
        int small = a;
        // Numbers up to 10000 need far fewer steps than the counter allows.
        for (int step = 0; step < 100 && small != 0; step++) {
            int rest = big % small;
            big = small;
            small = rest;
        }
        return big;
    }

    // ---- 3 sheets

    public int lists(int arch, int sheet, int lane, int i, int n, int what) {
        if (!isBelow(arch, ARCHES) || !isPlace(sheet, lane) || !isWithin(n, 1, MOST_SEEN) || !isBelow(what, 2)) {
            return BAD;
        }
        int fault = sheets[sheet].faultOf(lane, i, n);
        if (fault != FINE) {
            return fault;
        }
        int many = 0;
        int least = NONE;
        for (int listed = LISTS - 1; listed >= 0; listed--) {
            if (wouldShow(arch, sheets[sheet], i, n, listed, world.crowd)) {
                many++;
                least = listed;
            }
        }
        return what == 0 ? many : least;
    }

    public int seen(int arch, int traveller, int sheet, int lane, int i, int n, int what) {
        if (!isBelow(arch, ARCHES) || !isTraveller(traveller) || !isPlace(sheet, lane)
                || !isWithin(n, 1, MOST_SEEN) || !isBelow(what, 2)) {
            return BAD;
        }
        int fault = sheets[sheet].faultOf(lane, i, n);
        if (fault != FINE) {
            return fault;
        }
        return what == 0 ? kindsSeen(arch, traveller, sheets[sheet], i, n)
                : everiesSeen(arch, traveller, sheets[sheet], i, n);
    }

    public int film(int arch, int n, int sheet, int lane, int i) {
        if (!isBelow(arch, ARCHES) || !isWithin(n, 1, MOST_ITEMS) || !isPlace(sheet, lane)) {
            return BAD;
        }
        Sheet row = sheets[sheet];
        int fault = row.faultOf(lane, i, n);
        if (fault != FINE) {
            return fault;
        }
        fore.take(world.now);
        for (int d = 0; d < n; d++) {
            fore.pass(world.crowd);
            row.items[i + d] = fore.heaps[arch];
        }
        return n;
    }

    public int sheet(int sheet, int lane, int n) {
        if (!isPlace(sheet, lane) || n > MOST_ITEMS) {
            return BAD;
        }
        if (n < 0) {
            return SIZE;
        }
        sheets[sheet].renew(lane, n);
        return n;
    }

    public int drop(int sheet) {
        if (!isBelow(sheet, SHEETS)) {
            return BAD;
        }
        Sheet row = sheets[sheet];
        if (row.lane == NO_LANE) {
            return NULL;
        }
        int had = row.size;
        row.renew(NO_LANE, 0);
        return had;
    }

    public int item(int sheet, int lane, int i, long v) {
        if (!isPlace(sheet, lane)) {
            return BAD;
        }
        int fault = sheets[sheet].faultOf(lane, i, 1);
        if (fault != FINE) {
            return fault;
        }
        sheets[sheet].items[i] = lowestBits(lane, v);
        return 1;
    }

    public int copy(int from, int i, int to, int j, int n) {
        if (!isBelow(from, SHEETS) || !isBelow(to, SHEETS)) {
            return BAD;
        }
        Sheet source = sheets[from];
        Sheet target = sheets[to];
        if (source.lane == NO_LANE || target.lane == NO_LANE) {
            return NULL;
        }
        if (source.lane != target.lane) {
            return CAST;
        }
        if (!source.holds(i, n) || !target.holds(j, n)) {
            return INDEX;
        }
        System.arraycopy(source.items, i, target.items, j, n);
        return n;
    }

    private int kindsSeen(int arch, int traveller, Sheet row, int i, int n) {
        int set = 0;
        guess.take(world.crowd);
        for (int kind = 0; kind < KINDS; kind++) {
            guess.kinds[traveller] = kind;
            if (wouldShow(arch, row, i, n, world.now.listed, guess)) {
                set |= 1 << kind;
            }
        }
        return set;
    }

    private int everiesSeen(int arch, int traveller, Sheet row, int i, int n) {
        int set = 0;
        guess.take(world.crowd);
        for (int every = 1; every <= MOST_EVERY; every++) {
            guess.everies[traveller] = every;
            if (wouldShow(arch, row, i, n, world.now.listed, guess)) {
                set |= 1 << every;
            }
        }
        return set;
    }

    /** Whether the next n DAYS of this LIST and this crowd leave the STONES that the items from i on tell. */
    private boolean wouldShow(int arch, Sheet row, int i, int n, int listed, Crowd crowd) {
        fore.take(world.now);
        fore.listed = listed;
        for (int d = 0; d < n; d++) {
            fore.pass(crowd);
            if (row.items[i + d] != fore.heaps[arch]) {
                return false;
            }
        }
        return true;
    }

    // ---- what numbers are as told

    private boolean isTraveller(int traveller) {
        return isBelow(traveller, world.crowd.size);
    }

    private static boolean isPlace(int sheet, int lane) {
        return isBelow(sheet, SHEETS) && isBelow(lane, LANES);
    }

    private static boolean isBelow(int number, int bound) {
        return number >= 0 && number < bound;
    }

    private static boolean isWithin(int number, int least, int most) {
        return number >= least && number <= most;
    }

    private static boolean isIn(int bit, int set) {
        return ((set >> bit) & 1) != 0;
    }

    private static int asNumber(boolean truth) {
        return truth ? 1 : 0;
    }

    // ---- what the KINDS do

    /** How many STONES one of a KIND WEARS off an ARCH on a DAY. */
    private static int worn(int kind, int arch, int day) {
        int walker = 1;
        int carter = 2 * walker;
        int beggar = walker;
        switch (kind) {
            case CARTER:
                return carter;
            case BEGGAR:
                return beggar;
            case DUKE:
                return arch % 2 == 0 ? carter : 0;
            case THIEF:
                return arch == day % ARCHES ? beggar + 1 : beggar;
            case WALKER:
            default:
                return walker;
        }
    }

    /** How many STONES one of a KIND GIVES, if he is REFUSED on a DAY. */
    private static int given(int kind, int day) {
        int walker = 1;
        int carter = walker + 1;
        int beggar = day % 2 != 0 ? 0 : walker;
        switch (kind) {
            case CARTER:
                return carter;
            case BEGGAR:
                return beggar;
            case DUKE:
                return 3 * carter;
            case THIEF:
                return Math.max(0, beggar - 1);
            case WALKER:
            default:
                return walker;
        }
    }

    private static long lowestBits(int lane, long v) {
        switch (lane) {
            case 0:
                return (byte) v;
            case 1:
                return (short) v;
            case 2:
                return (int) v;
            default:
                return v;
        }
    }

    /** Who comes: TRAVELLERS by their numbers. */
    private static final class Crowd {
        final int[] kinds;
        final int[] looks;
        final int[] everies;
        int size;

        Crowd() {
            kinds = new int[MOST_TRAVELLERS];
            looks = new int[MOST_TRAVELLERS];
            everies = new int[MOST_TRAVELLERS];
            size = 0;
        }

        boolean hasRoom() {
            return size < MOST_TRAVELLERS;
        }

        void join(int kind, int hisLooks, int every) {
            if (!hasRoom()) {
                return;
            }
            kinds[size] = kind;
            looks[size] = hisLooks;
            everies[size] = every;
            size++;
        }

        boolean comes(int traveller, int day) {
            int every = everies[traveller];
            return every > 0 && day % every == 0;
        }

        boolean isRefused(int traveller, int listed) {
            return (looks[traveller] & listed) != 0;
        }

        void take(Crowd other) {
            for (int t = 0; t < MOST_TRAVELLERS; t++) {
                kinds[t] = other.kinds[t];
                looks[t] = other.looks[t];
                everies[t] = other.everies[t];
            }
            size = other.size;
        }
    }

    /** All that a DAY, LISTED, MENDED, a FLOOD may change, and so all that comes back, if it is UNDONE. */
    private static final class Moment {
        final int[] heaps;
        int listed;
        int day;
        int over;
        int refused;
        int fell;
        int draw;

        Moment() {
            heaps = new int[ARCHES];
            for (int a = 0; a < ARCHES; a++) {
                heaps[a] = FIRST_STONES;
            }
            listed = 0;
            day = 0;
            over = 0;
            refused = 0;
            fell = 0;
            draw = 1;
        }

        void take(Moment other) {
            takeHeaps(other);
            listed = other.listed;
            day = other.day;
            over = other.over;
            refused = other.refused;
            fell = other.fell;
            draw = other.draw;
        }

        private void takeHeaps(Moment other) {
            for (int a = 0; a < ARCHES; a++) {
                heaps[a] = other.heaps[a];
            }
        }

        /** A BRIDGE's beginning, by which THE DRAW stays. */
        void begin(Moment told) {
            takeHeaps(told);
            listed = told.listed;
            day = 0;
            over = 0;
            refused = 0;
            fell = 0;
        }

        int allStones() {
            int all = 0;
            for (int a = 0; a < ARCHES; a++) {
                all += heaps[a];
            }
            return all;
        }

        int holes() {
            int set = 0;
            for (int a = 0; a < ARCHES; a++) {
                if (heaps[a] == 0) {
                    set |= 1 << a;
                }
            }
            return set;
        }

        void lose(int arch, int n) {
            heaps[arch] = Math.max(0, heaps[arch] - n);
        }

        void loseAll(int n) {
            for (int a = 0; a < ARCHES; a++) {
                lose(a, n);
            }
        }

        /** One DAY: the set of those who FELL in. */
        int pass(Crowd crowd) {
            int fallen = 0;
            for (int t = 0; t < crowd.size; t++) {
                if (!crowd.comes(t, day)) {
                    continue;
                }
                int kind = crowd.kinds[t];
                if (crowd.isRefused(t, listed)) {
                    refused++;
                    putIn(given(kind, day));
                } else if (crosses(kind)) {
                    over++;
                } else {
                    fell++;
                    fallen |= 1 << t;
                }
            }
            day++;
            return fallen;
        }

        private void putIn(int given) {
            for (int g = 0; g < given; g++) {
                int arch = weakest();
                heaps[arch] = Math.min(MOST_STONES, heaps[arch] + 1);
            }
        }

        private int weakest() {
            int arch = 0;
            for (int a = 1; a < ARCHES; a++) {
                if (heaps[a] < heaps[arch]) {
                    arch = a;
                }
            }
            return arch;
        }

        private boolean crosses(int kind) {
            for (int a = 0; a < ARCHES; a++) {
                int gone = worn(kind, a, day);
                if (heaps[a] <= gone) {
                    heaps[a] = 0;
                    return false;
                }
                heaps[a] -= gone;
            }
            return true;
        }

        void drawLook() {
            draw = (int) ((draw * 1103515245L + 12345L) & 0x7fffffffL);
            if ((draw / 65536) % 5 == 0) {
                listed ^= 1 << ((draw / 128) % LOOKS);
            }
        }
    }

    /** All but SHEETS, THE TAPE: what an IMAGE keeps. */
    private static final class World {
        final Moment now;
        final Crowd crowd;
        // A ring: the known moments stand from the oldest one on.
        final Moment[] past;
        int oldest;
        int known;

        World() {
            now = new Moment();
            crowd = new Crowd();
            past = new Moment[KNOWN_PAST];
            for (int p = 0; p < KNOWN_PAST; p++) {
                past[p] = new Moment();
            }
            oldest = 0;
            known = 0;
        }

        void remember() {
            if (known == KNOWN_PAST) {
                oldest = (oldest + 1) % KNOWN_PAST;
                known--;
            }
            past[(oldest + known) % KNOWN_PAST].take(now);
            known++;
        }

        void goBack() {
            if (known > 0) {
                known--;
                now.take(past[(oldest + known) % KNOWN_PAST]);
            }
        }

        void forget() {
            oldest = 0;
            known = 0;
        }

        void begin(Moment told, Crowd newcomers) {
            now.begin(told);
            crowd.take(newcomers);
            forget();
        }

        void take(World other) {
            now.take(other.now);
            crowd.take(other.crowd);
            for (int p = 0; p < KNOWN_PAST; p++) {
                past[p].take(other.past[p]);
            }
            oldest = other.oldest;
            known = other.known;
        }
    }

    /** What is best by now: fewest FALL in, of like ones most are OVER, of like ones what was offered first. */
    private static final class Choice {
        int which;
        int falls;
        int overs;

        Choice() {
            clear();
        }

        void clear() {
            which = NONE;
            falls = 0;
            overs = 0;
        }

        void offer(int offered, int itsFalls, int itsOvers) {
            if (which == NONE || itsFalls < falls || itsFalls == falls && itsOvers > overs) {
                which = offered;
                falls = itsFalls;
                overs = itsOvers;
            }
        }
    }

    /** The letters of a BRIDGE, and how far they have been read. */
    private static final class Tape {
        final char[] letters;
        int length;
        int place;

        Tape() {
            letters = new char[TAPE_LETTERS];
            length = 0;
            place = 0;
        }

        boolean hasRoom() {
            return length < TAPE_LETTERS;
        }

        void append(char letter) {
            if (hasRoom()) {
                letters[length] = letter;
                length++;
            }
        }

        void clear() {
            length = 0;
            place = 0;
        }

        /** Whether it is a BRIDGE; if it is none, the place is that of the FAULT. */
        boolean reads(Moment told, Crowd crowd) {
            place = 0;
            told.listed = 0;
            crowd.size = 0;
            if (!readsHeaps(told)) {
                return false;
            }
            if (passes('!')) {
                told.listed = risingLooks();
                if (told.listed == 0) {
                    return false;
                }
            }
            if (passes(';') && !readsCrowd(crowd)) {
                return false;
            }
            return next() == TAPE_END;
        }

        private boolean readsHeaps(Moment told) {
            for (int a = 0; a < ARCHES; a++) {
                if (a > 0 && !passes(',')) {
                    return false;
                }
                int number = number();
                if (number < 0) {
                    return false;
                }
                told.heaps[a] = number;
            }
            return true;
        }

        /** Below 0, if none as told stands here. */
        private int number() {
            next();
            int start = place;
            int number = 0;
            while (place < length && place < start + 2 && isWithin(letters[place], '0', '9')) {
                number = 10 * number + (letters[place] - '0');
                place++;
            }
            if (number > MOST_STONES) {
                place = start;
                return -1;
            }
            return place > start ? number : -1;
        }

        private boolean readsCrowd(Crowd crowd) {
            for (int t = 0; t < MOST_TRAVELLERS; t++) {
                if (t > 0 && !passes(',')) {
                    return true;
                }
                if (!readsTraveller(crowd)) {
                    return false;
                }
            }
            return true;
        }

        private boolean readsTraveller(Crowd crowd) {
            int kind = KIND_LETTERS.indexOf(next());
            if (kind < 0) {
                return false;
            }
            place++;
            int every = next() - '0';
            if (!isWithin(every, 1, MOST_EVERY)) {
                return false;
            }
            place++;
            crowd.join(kind, risingLooks(), every);
            return true;
        }

        private int risingLooks() {
            int set = 0;
            for (int look = 0; look < LOOKS; look++) {
                if (passes((char) ('a' + look))) {
                    set |= 1 << look;
                }
            }
            return set;
        }

        private boolean passes(char letter) {
            if (next() != letter) {
                return false;
            }
            place++;
            return true;
        }

        /** The letter behind blanks, which the place is at then; TAPE_END, if there is none. */
        private char next() {
            while (place < length && letters[place] == ' ') {
                place++;
            }
            return place < length ? letters[place] : TAPE_END;
        }
    }

    /** A row of a LANE, or nothing. Its items are kept as longs, cut to their LANE when they come in. */
    private static final class Sheet {
        final long[] items;
        int lane;
        int size;

        Sheet() {
            items = new long[MOST_ITEMS];
            lane = NO_LANE;
            size = 0;
        }

        void renew(int newLane, int newSize) {
            for (int k = 0; k < MOST_ITEMS; k++) {
                items[k] = 0L;
            }
            lane = newLane;
            size = newSize;
        }

        boolean holds(int from, int n) {
            return n >= 0 && from >= 0 && from <= size - n;
        }

        /** What keeps n items from i on, taken as a row of a LANE, from being used; FINE, if nothing does. */
        int faultOf(int asLane, int i, int n) {
            if (lane == NO_LANE) {
                return NULL;
            }
            if (lane != asLane) {
                return CAST;
            }
            return holds(i, n) ? FINE : INDEX;
        }
    }
}
