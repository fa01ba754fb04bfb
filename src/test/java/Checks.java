/** What the tests say: a line for each promise, and every answer that is not the one that is due. */
final class Checks {
    private static String name = null;
    private static int wrong = 0;
    private static int failed = 0;

    private Checks() {
    }

    static void promise(String newName) {
        close();
        name = newName;
        wrong = 0;
    }

    static void due(String what, long got, long want) {
        if (got != want) {
            wrong++;
            if (wrong <= 20) {
                System.out.println("  " + what + " answered " + got + ", due is " + want);
            }
        }
    }

    static void due(String what, boolean holds) {
        due(what, holds ? 1 : 0, 1);
    }

    /** The last call of every test. */
    static void end() {
        close();
        if (failed != 0) {
            System.exit(1);
        }
    }

    private static void close() {
        if (name != null) {
            System.out.println((wrong == 0 ? "passed: " : "failed: ") + name);
            failed += wrong == 0 ? 0 : 1;
        }
        name = null;
    }

    /** The TEXT typed and taken as a BRIDGE. */
    static int bridge(RefusedStones x, String text) {
        for (int i = 0; i < text.length(); i++) {
            due("type of " + text + " at " + i, x.type(text.charAt(i)), i + 1);
        }
        return x.bridge();
    }

    /** A new object with the BRIDGE of the TEXT. */
    static RefusedStones built(String text) {
        RefusedStones x = new RefusedStones();
        int answer = bridge(x, text);
        due("bridge of " + text + " is taken", answer >= 0);
        return x;
    }

    static void dueStones(String when, RefusedStones x, int... want) {
        for (int arch = 0; arch < want.length; arch++) {
            due(when + ": stones(" + arch + ")", x.stones(arch), want[arch]);
        }
    }

    /** count(what) from what 0 on. */
    static void dueCounts(String when, RefusedStones x, int... want) {
        for (int what = 0; what < want.length; what++) {
            due(when + ": count(" + what + ")", x.count(what), want[what]);
        }
    }

    /** FLOODS by c of 10 of a new object with the BRIDGE of the TEXT. */
    static void dueChance(String text, int c, int above, int below) {
        RefusedStones x = built(text);
        due(text + ": floods(" + c + ", 0)", x.floods(c, 0), above);
        due(text + ": floods(" + c + ", 1)", x.floods(c, 1), below);
    }
}
