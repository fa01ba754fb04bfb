/** The sentences on THE TAPE and the TEXT of a BRIDGE (promises 6, 7 and their terms), each by itself. */
final class TextTest {
    private static final String KINDS = "wcbdt";
    private static final String DIGITS = "0123456789";

    private TextTest() {
    }

    public static void main(String[] args) {
        tape();
        eachLetter();
        heaps();
        listed();
        travellers();
        blanks();
        faultsOfNumbers();
        faultsAtTheEnd();
        inPlaceOfAll();
        allElseStays();
        Checks.end();
    }

    private static void dueFault(String text, int place) {
        Checks.due("'" + text + "'", Checks.bridge(new RefusedStones(), text), -20 - place);
    }

    private static void dueTaken(String text, int travellers) {
        Checks.due("'" + text + "'", Checks.bridge(new RefusedStones(), text), travellers);
    }

    private static void tape() {
        Checks.promise("6 type: one letter more, 32 .. 126: how many it has; FULL: 80");
        RefusedStones x = new RefusedStones();
        for (int k = 1; k <= 80; k++) {
            Checks.due("letter " + k, x.type(k % 2 == 0 ? 32 : 126), k);
        }
        Checks.due("the 81st", x.type(32), -3);
        Checks.due("the 82nd", x.type(126), -3);
        Checks.due("the fault is by the first of the 80", x.bridge(), -20);
        Checks.due("empty then", x.type(32), 1);

        Checks.promise("6 type: BAD, FULL leave THE TAPE as it is");
        RefusedStones y = new RefusedStones();
        for (char letter : "7,8,9,6".toCharArray()) {
            y.type(31);
            y.type(letter);
            y.type(127);
        }
        for (int k = 7; k < 80; k++) {
            y.type(' ');
        }
        Checks.due("FULL", y.type('1'), -3);
        Checks.due("a TEXT of 80 letters", y.bridge(), 0);
        Checks.dueStones("a TEXT of 80 letters", y, 7, 8, 9, 6);

        Checks.promise("7 bridge: the longest TEXT, behind blanks up to 80 letters");
        String longest = "40,40,40,40!abcdef;w9abcdef,c9abcdef,b9abcdef,d9abcdef,t9abcdef,w9abcdef";
        RefusedStones z = Checks.built(" ".repeat(80 - longest.length()) + longest);
        Checks.dueCounts("the longest", z, 6, 0, 63, 0, 0, 0, 160, 0, 0);
        for (int t = 0; t < 6; t++) {
            Checks.due("kind of " + t, z.of(t, 0), t % 5);
            Checks.due("looks of " + t, z.of(t, 1), 63);
            Checks.due("every of " + t, z.of(t, 2), 9);
        }
        dueTaken("0,0,0,0", 0);
    }

    /** Behind what is right so far: each of the letters 32 .. 126 may stand there, or is where the FAULT is. */
    private static void dueNext(String ahead, String next) {
        for (char letter = 32; letter < 127; letter++) {
            int answer = Checks.bridge(new RefusedStones(), ahead + letter);
            int place = ahead.length();
            if (letter == ' ' || next.indexOf(letter) >= 0) {
                Checks.due("'" + ahead + letter + "' may be", answer >= 0 || answer == -20 - place - 1);
            } else {
                Checks.due("'" + ahead + letter + "'", answer, -20 - place);
            }
        }
    }

    private static void eachLetter() {
        Checks.promise("7 bridge: each letter at each place of a TEXT: it can stand there, or is the FAULT's place");
        dueNext("", DIGITS);
        dueNext("0", DIGITS + ",");
        dueNext("3", DIGITS + ",");
        dueNext("00", ",");
        dueNext("40", ",");
        dueNext("4 ", ",");
        dueNext("1,", DIGITS);
        dueNext("1,2,3", DIGITS + ",");
        dueNext("1,2,3,", DIGITS);
        dueNext("1,2,3,4 ", "!;");
        dueNext("1,2,3,40", "!;");
        dueNext("1,2,3,1", DIGITS + "!;");
        dueNext("1,2,3,4!", "abcdef");
        dueNext("1,2,3,4!a", "bcdef;");
        dueNext("1,2,3,4!bd", "ef;");
        dueNext("1,2,3,4!f", ";");
        dueNext("1,2,3,4;", KINDS);
        for (int k = 0; k < 5; k++) {
            dueNext("1,2,3,4;" + KINDS.charAt(k), "123456789");
            dueNext("1,2,3,4!c;" + KINDS.charAt(k) + "9", "abcdef,");
        }
        dueNext("1,2,3,4;w1a", "bcdef,");
        dueNext("1,2,3,4;w1bd ", "ef,");
        dueNext("1,2,3,4;w1f", ",");
        dueNext("1,2,3,4;w1,", KINDS);
        dueNext("1,2,3,4;w1f,c2", "abcdef,");
        dueNext("1,2,3,4;w1,w1,w1,w1,w1,", KINDS);
        dueNext("1,2,3,4;w1,w1,w1,w1,w1,w1", "abcdef");
        dueNext("1,2,3,4;w1,w1,w1,w1,w1,w1f", "");
    }

    private static void heaps() {
        Checks.promise("7 bridge: 4 numbers 0 .. 40, of 1 or 2 digits");
        for (int number = 0; number <= 40; number++) {
            RefusedStones x = Checks.built(number + "," + (40 - number) + "," + number / 10 + number % 10 + ",0");
            Checks.dueStones("by " + number, x, number, 40 - number, number, 0);
        }
        RefusedStones y = Checks.built("00,01,09,0");
        Checks.dueStones("0 ahead", y, 0, 1, 9, 0);

        Checks.promise("7 bridge: 41 .. 99 are not as told, by each of the 4");
        for (int number = 41; number <= 99; number++) {
            dueFault(number + ",1,1,1", 0);
            dueFault("1," + number + ",1,1", 2);
            dueFault("1,1, " + number + ",1", 5);
            dueFault("1,1,1," + number, 6);
        }

        Checks.promise("7 bridge: 4 numbers with , between; no fewer, no more");
        dueFault("1", 1);
        dueFault("1,1", 3);
        dueFault("1,1,1", 5);
        dueTaken("1,1,1,1", 0);
        dueFault("1,1,1,1,1", 7);
        dueFault("1,1;w1", 3);
        dueFault("1,1,1!a", 5);
        dueFault(",1,1,1", 0);
        dueFault("1,,1,1", 2);
        dueFault("1,1,1,,1", 6);
    }

    private static void listed() {
        Checks.promise("7 bridge: perhaps ! and letters a .. f, rising: THE LIST; else none");
        for (int look = 0; look < 6; look++) {
            Checks.due("look " + look, Checks.built("1,1,1,1!" + (char) ('a' + look)).count(2), 1 << look);
        }
        for (int set = 1; set < 64; set++) {
            Checks.due("set " + set, Checks.built("1,1,1,1!" + letters(set) + ";w1").count(2), set);
        }
        RefusedStones x = new RefusedStones();
        x.list(63);
        Checks.bridge(x, "1,1,1,1;w1");
        Checks.due("none", x.count(2), 0);

        Checks.promise("7 bridge: a letter that is not above the one before can't stand there");
        for (char letter = 'a'; letter <= 'f'; letter++) {
            dueFault("1,1,1,1!f" + letter, 9);
            dueFault("1,1,1,1!" + letter + letter, 9);
            dueFault("1,1,1,1;w1" + letter + letter, 11);
            dueFault("1,1,1,1;w1f " + letter, 12);
        }
        dueFault("1,1,1,1!acb", 10);
        dueFault("1,1,1,1!abca", 11);
        dueFault("1,1,1,1!c b", 10);
        dueTaken("1,1,1,1!f;w1a,w1a", 2);
        dueTaken("1,1,1,1!f;w1f,w1a", 2);

        Checks.promise("7 bridge: nor, behind !, anything but a letter a .. f");
        dueFault("1,1,1,1!", 8);
        dueFault("1,1,1,1!;w1", 8);
        dueFault("1,1,1,1! ;w1", 9);
        dueFault("1,1,1,1!!a", 8);
        dueFault("1,1,1,1!,", 8);
        dueFault("1,1,1,1!g", 8);
        dueFault("1,1,1,1!A", 8);
        dueFault("1,1,1,1!1", 8);
    }

    private static String letters(int set) {
        StringBuilder s = new StringBuilder();
        for (int look = 0; look < 6; look++) {
            s.append((set >> look & 1) != 0 ? String.valueOf((char) ('a' + look)) : "");
        }
        return s.toString();
    }

    private static void travellers() {
        Checks.promise("7 bridge: perhaps ; and 1 to 6 TRAVELLERS with , between");
        StringBuilder text = new StringBuilder("1,1,1,1");
        dueTaken(text.toString(), 0);
        dueFault(text + ";", 8);
        for (int many = 1; many <= 6; many++) {
            text.append(many == 1 ? ";w1" : ",w1");
            dueTaken(text.toString(), many);
            dueFault(text + ",", text.length() + (many == 6 ? 0 : 1));
        }
        dueFault(text + ",w1", text.length());
        dueFault("1,1,1,1;w1;w1", 10);
        dueFault("1,1,1,1;,w1", 8);
        dueFault("1,1,1,1;w1w1", 10);

        Checks.promise("7 bridge: w c b d t, a digit 1 .. 9, then perhaps letters a .. f, rising");
        for (int kind = 0; kind < 5; kind++) {
            for (int every = 1; every <= 9; every++) {
                RefusedStones x = Checks.built("1,1,1,1;" + KINDS.charAt(kind) + every + letters(7 * every));
                Checks.due("kind", x.of(0, 0), kind);
                Checks.due("looks", x.of(0, 1), 7 * every);
                Checks.due("every", x.of(0, 2), every);
            }
            dueFault("1,1,1,1;" + KINDS.charAt(kind), 9);
            dueFault("1,1,1,1;" + KINDS.charAt(kind) + "0", 9);
            dueFault("1,1,1,1;" + KINDS.charAt(kind) + "a1", 9);
            dueFault("1,1,1,1;" + Character.toUpperCase(KINDS.charAt(kind)) + "1", 8);
        }
        for (int looks = 0; looks < 64; looks++) {
            Checks.due("looks", Checks.built("1,1,1,1;d3" + letters(looks)).of(0, 1), looks);
        }
        dueFault("1,1,1,1;w12", 10);
        dueFault("1,1,1,1;w10", 10);
        dueFault("1,1,1,1;1w", 8);
        dueFault("1,1,1,1;w1g", 10);
        dueFault("1,1,1,1;w1a1", 11);
    }

    private static void blanks() {
        Checks.promise("7 bridge: blanks count for nothing, between all letters");
        StringBuilder wide = new StringBuilder();
        for (char letter : "1,2,3,4!ac;w1b,d2ce".toCharArray()) {
            wide.append("  ").append(letter);
        }
        RefusedStones x = Checks.built(wide + "  ");
        Checks.dueStones("wide", x, 1, 2, 3, 4);
        Checks.dueCounts("wide", x, 2, 0, 5);
        Checks.due("the second's looks", x.of(1, 1), 20);
        Checks.due("the second's every", x.of(1, 2), 2);

        Checks.promise("7 bridge: blanks end a number");
        dueFault("1 2,1,1,1", 2);
        dueFault("4  0,1,1,1", 3);
        dueFault("0 0", 2);
        dueFault("1,1,1,1 0", 8);
        dueFault("9 9", 2);

        Checks.promise("7 bridge: the place is behind blanks");
        dueFault("   x", 3);
        dueFault("  41", 2);
        dueFault("1,1,1,1!  g", 10);
        dueFault("1,1,1,1;w  0", 11);
        dueFault("1,1,1,1;  x", 10);
    }

    private static void faultsOfNumbers() {
        Checks.promise("7 bridge: a number not as told: the FAULT is at its first digit, whatever follows");
        dueFault("41", 0);
        dueFault("410", 0);
        dueFault("99x", 0);
        dueFault("1,50 0", 2);
        dueFault("1,1,1,417!", 6);
        dueFault("1,1, 41;", 5);

        Checks.promise("7 bridge: else a third digit can't stand there");
        dueFault("400", 2);
        dueFault("010", 2);
        dueFault("000,", 2);
        dueFault("1,123", 4);
        dueFault("1,1,1,401", 8);
        dueFault("1,1,1,4000", 8);

        Checks.promise("7 bridge: no digit at all: the FAULT is at what stands there");
        dueFault("-1,1,1,1", 0);
        dueFault("+1", 0);
        dueFault("1,a", 2);
        dueFault("1,!", 2);
        dueFault("1,1,1,;", 6);
    }

    private static void faultsAtTheEnd() {
        Checks.promise("7 bridge: the end: how many letters there are, 0 to 80");
        dueFault("", 0);
        dueFault(" ", 1);
        dueFault("1,", 2);
        dueFault("1,  ", 4);
        dueFault("1,1,1", 5);
        dueFault("1,1,1,1!", 8);
        dueFault("1,1,1,1;", 8);
        dueFault("1,1,1,1;w", 9);
        dueFault("1,1,1,1;w1,", 11);
        dueFault("1,1,1,1;w1, ", 12);
        dueFault(" ".repeat(80), 80);
        dueFault(" ".repeat(78) + "1,", 80);
        dueFault(" ".repeat(79) + "x", 79);
    }

    private static void inPlaceOfAll() {
        Checks.promise("7 bridge: in place of all; DAY 0, nothing counted, nothing to be UNDONE");
        RefusedStones x = Checks.built("1,40,40,40!a;w1a,w1,c2b,c3,w4,d9");
        x.days(9);
        x.mend(0, 40);
        x.days(1);
        for (int what = 1; what < 6; what++) {
            Checks.due("there is something of " + what, x.count(what) > 0);
        }
        Checks.due("nobody", Checks.bridge(x, "0,5,0,6"), 0);
        Checks.dueCounts("in place of all", x, 0, 0, 0, 0, 0, 0, 11, 0b0101, 0);
        Checks.due("no such one", x.of(0, 0), -1);
        Checks.due("nothing to be undone", x.undo(), -4);

        Checks.promise("7 bridge: THE DRAW, the IMAGE, SHEETS stay");
        RefusedStones y = new RefusedStones();
        y.seed(31);
        y.list(7);
        y.image();
        y.sheet(2, 1, 4);
        Checks.bridge(y, "1,1,1,1;w1");
        Checks.due("the sheet", y.drop(2), 4);
        Checks.due("the draw", y.seed(32), 31);
        Checks.due("the image", y.restore(), 1);
        Checks.dueCounts("the image", y, 0, 0, 7, 0, 0, 0, 40, 0, 1);

        Checks.promise("7 bridge: THE TAPE is empty then");
        RefusedStones z = Checks.built("1,2,3,4");
        Checks.due("by a bridge", z.type('5'), 1);
        Checks.due("a fault at the end", z.bridge(), -21);
        Checks.due("by a fault, too", z.bridge(), -20);
        Checks.due("by a fault, too", z.type('5'), 1);
    }

    private static RefusedStones standing() {
        RefusedStones x = Checks.built("5,6,7,8!b;c2a,w1b");
        x.image();
        x.seed(4);
        x.drift(3);
        x.sheet(0, 0, 4);
        x.film(1, 4, 0, 0, 0);
        return x;
    }

    private static void allElseStays() {
        Checks.promise("7 bridge: a FAULT: all else stays");
        String before = State.of(standing());
        String[] texts = {"", "x", "9,9,9,41", "9,9,9,9,", "9,9,9,9!", "9,9,9,9!ca", "9,9,9,9!c;", "9,9,9,9!c;w",
            "9,9,9,9!c;w3,", "9,9,9,9!c;w3,d0", "9,9,9,9!c;w3,d4ee", "9,9,9,9;w1,w1,w1,w1,w1,w1,w1"};
        for (String text : texts) {
            RefusedStones x = standing();
            Checks.due("'" + text + "' is none", Checks.bridge(x, text) <= -20);
            Checks.due("'" + text + "' changes nothing", State.of(x).equals(before));
        }
    }
}
