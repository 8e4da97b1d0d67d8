import java.util.function.Supplier;

/** What the tests share: findings and kinds by name, towns and texts made in a line, the ends of a range. */
abstract class Towns {
    static final long BEYOND = -1000000001;
    static final long FULL = -1000000002;
    static final long KIND = -1000000003;
    static final long NONE = -1000000004;
    static final long STATE = -1000000005;
    static final long MISSING = -1000000006;
    static final long SIZE = -1000000007;

    static final int THROWER = 0;
    static final int LADY = 1;
    static final int BOY = 2;
    static final int STRANGER = 3;
    static final int AGENT = 4;
    static final int DIVER = 5;
    static final int[] ALL_KINDS = {THROWER, LADY, BOY, STRANGER, AGENT, DIVER};

    static final int LEFT = 0;
    static final int RIGHT = 1;

    static final int LEANS = 1;
    static final int PENCE = 2;
    static final int AWAY = 3;

    /** A call with one of its arguments left open. */
    interface Act {
        long go(BasinVotes x, int v);
    }

    static BasinVotes with(int... kinds) {
        BasinVotes x = new BasinVotes();
        for (int kind : kinds) {
            x.person(kind);
        }
        return x;
    }

    /** People of these kinds, with l and r lying in question 0. */
    static BasinVotes lying(int l, int r, int... kinds) {
        BasinVotes x = with(kinds);
        x.lies(0, LEFT, l);
        x.lies(0, RIGHT, r);
        return x;
    }

    /** One alone, with so many pence. */
    static BasinVotes one(int kind, int pence) {
        BasinVotes x = with(kind);
        x.set(0, PENCE, pence);
        return x;
    }

    static BasinVotes eight() {
        return with(THROWER, LADY, BOY, STRANGER, AGENT, DIVER, THROWER, LADY);
    }

    /**
     * A town on DAY 99900. It takes 999 calls, past the 512 after which answers are free; but no fewer lead to a DAY
     * that is the last but a hundred.
     */
    static BasinVotes late() {
        BasinVotes x = with(THROWER);
        for (int i = 0; i < 999; i++) {
            x.days(100);
        }
        return x;
    }

    static void feedAll(BasinVotes x, String text) {
        for (int i = 0; i < text.length(); i += 4) {
            int n = Math.min(4, text.length() - i);
            int bytes = 0;
            for (int k = 0; k < n; k++) {
                bytes = bytes << 8 | text.charAt(i + k);
            }
            x.feed(bytes, n);
        }
    }

    static int told(BasinVotes x, String text) {
        feedAll(x, text);
        return x.town();
    }

    /** Nothing beyond least and most is taken, both of these are; each value is tried on a town of its own. */
    static void range(String call, Supplier<BasinVotes> town, Act act, int least, int most) {
        // Farther values have the low bits of one that is taken: none may be cut to it.
        int[] outside = {least - 1, most + 1, least - 256, most + 256, least + (1 << 16), most - (1 << 16),
            least + Integer.MIN_VALUE, Integer.MIN_VALUE, Integer.MAX_VALUE};
        for (int v : outside) {
            Due.is(call + " of " + v, act.go(town.get(), v), BEYOND);
        }
        if (least <= most) {
            Due.holds(call + " of " + least + " is not beyond", act.go(town.get(), least) != BEYOND);
            Due.holds(call + " of " + most + " is not beyond", act.go(town.get(), most) != BEYOND);
        }
    }
}
