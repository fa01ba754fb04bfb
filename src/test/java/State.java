/** What can be learnt of an object by asking it: two objects are alike, if these texts are. */
final class State {
    private final RefusedStones x;
    private final StringBuilder told = new StringBuilder();

    private State(RefusedStones x) {
        this.x = x;
    }

    /** At most 270 calls; the object is of no use behind it. */
    static String of(RefusedStones x) {
        State s = new State(x);
        s.now();
        s.sheets();
        s.past();
        int restored = x.restore();
        s.say("restore", restored);
        if (restored == 1) {
            s.now();
            s.past();
        }
        s.tape();
        return s.told.toString();
    }

    private void say(String what, long answer) {
        told.append(what).append(' ').append(answer).append('\n');
    }

    private void now() {
        for (int what = 0; what < 9; what++) {
            say("count " + what, x.count(what));
        }
        for (int arch = 0; arch < 4; arch++) {
            say("stones " + arch, x.stones(arch));
        }
        for (int t = 0; t < 6; t++) {
            for (int what = 0; what < 3; what++) {
                say("of " + t + " " + what, x.of(t, what));
            }
        }
    }

    private void sheets() {
        for (int s = 0; s < 4; s++) {
            for (int lane = 0; lane < 4; lane++) {
                say("lane " + s + " " + lane, x.copy(s, 0, s, 0, 0) + x.lists(0, s, lane, 0, 1, 0));
            }
            for (int i = 0; i < 5; i++) {
                say("item " + s + " " + i, x.lists(0, s, s, i, 1, 1));
            }
            say("items " + s, x.lists(0, s, s, 0, 4, 0));
            say("drop " + s, x.drop(s));
        }
    }

    private void past() {
        for (int k = 0; k < 9; k++) {
            say("draw", x.seed(5));
            say("undo", x.undo());
            say("day", x.count(1));
            say("list", x.count(2));
            say("all", x.count(6));
            say("fell", x.count(5));
        }
    }

    private void tape() {
        say("tape", x.type(' '));
        say("bridge", x.bridge());
        now();
    }
}
