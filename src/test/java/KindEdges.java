/** What people of each kind do: SIDE, THROWS, DIVES and EARNS of section 1, where one answer turns into another. */
final class KindEdges extends Towns {
    private KindEdges() {
    }

    static void all() {
        sideOfThrower();
        sideOfLady();
        sideOfBoy();
        sideOfStranger();
        sideOfAgent();
        sideOfDiver();
        throwsNoMoreThanItHas();
        throwsOfThrower();
        throwsOfLady();
        throwsOfBoyAndStranger();
        throwsOfAgentAndDiver();
        divesWhereMoreLies();
        divesNoMoreThanLieThere();
        divesOfMost();
        divesOfDiver();
        earns();
    }

    private static void sideOfThrower() {
        Doc.terms("SIDE (0 left, 1 right; in question q, l and r lying there, d being DAY): THROWER: 0, if it LEANS to that, else 1.");
        for (int q = 0; q < 6; q++) {
            BasinVotes x = with(THROWER);
            x.set(0, LEANS, 63 - (1 << q));
            x.lies(q, RIGHT, 9999);
            for (int other = 0; other < 6; other++) {
                Due.is("side in " + other + " of one that leans all but " + q, x.acts(0, other, 0), other == q ? 1 : 0);
            }
        }
    }

    private static void ladySide(int hers, int others, boolean sheTurns) {
        BasinVotes left = lying(hers, others, LADY);
        left.set(0, LEANS, 1);
        Due.is("side of a lady of the left, " + hers + " to " + others, left.acts(0, 0, 0), sheTurns ? RIGHT : LEFT);
        BasinVotes right = lying(others, hers, LADY);
        right.set(0, LEANS, 62);
        Due.is("side of a lady of the right, " + hers + " to " + others, right.acts(0, 0, 0), sheTurns ? LEFT : RIGHT);
    }

    private static void sideOfLady() {
        Doc.terms("LADY: as THROWER, but the other one, if hers is more than 20 ahead.");
        ladySide(0, 0, false);
        ladySide(20, 0, false);
        ladySide(21, 0, true);
        ladySide(120, 100, false);
        ladySide(121, 100, true);
        ladySide(9999, 9979, false);
        ladySide(9999, 9978, true);
        ladySide(9999, 0, true);
        ladySide(0, 21, false);
        ladySide(0, 9999, false);
    }

    private static void sideOfLess(int kind) {
        Due.is("side, none lies there", lying(0, 0, kind).acts(0, 0, 0), LEFT);
        Due.is("side, alike", lying(7, 7, kind).acts(0, 0, 0), LEFT);
        Due.is("side, both full", lying(9999, 9999, kind).acts(0, 0, 0), LEFT);
        Due.is("side, one more left", lying(8, 7, kind).acts(0, 0, 0), RIGHT);
        Due.is("side, one more right", lying(7, 8, kind).acts(0, 0, 0), LEFT);
        Due.is("side, left full", lying(9999, 9998, kind).acts(0, 0, 0), RIGHT);
        Due.is("side, right full", lying(0, 9999, kind).acts(0, 0, 0), LEFT);
        BasinVotes x = lying(7, 8, kind);
        x.set(0, LEANS, 1);
        x.bribe(1);
        Due.is("side of less, whatever it leans to", x.acts(0, 0, 0), LEFT);
    }

    private static void sideOfBoy() {
        Doc.terms("BOY: that of less (the left, if alike).");
        sideOfLess(BOY);
    }

    private static void sideOfStranger() {
        Doc.terms("STRANGER: the rest of d by 2.");
        BasinVotes x = with(STRANGER);
        x.set(0, LEANS, 63);
        x.bribe(1);
        for (int day = 0; day < 8; day++) {
            for (int q = 0; q < 6; q++) {
                Due.is("side on day " + day + " in " + q, x.acts(0, q, 0), day % 2);
            }
            x.days(1);
        }
    }

    private static void sideOfAgent() {
        Doc.terms("AGENT: BRIBE.");
        for (int leans = 0; leans <= 63; leans += 63) {
            BasinVotes x = lying(9999, 0, AGENT);
            x.set(0, LEANS, leans);
            for (int q = 0; q < 6; q++) {
                x.bribe(0);
                Due.is("side, bribe 0", x.acts(0, q, 0), LEFT);
                x.bribe(1);
                Due.is("side, bribe 1", x.acts(0, q, 0), RIGHT);
            }
        }
    }

    private static void sideOfDiver() {
        Doc.terms("BRIBE. DIVER: as BOY. THROWS");
        sideOfLess(DIVER);
    }

    /** Pence, and what is thrown with so many, by turns. */
    private static void throwing(int kind, int... penceAndThrown) {
        for (int i = 0; i < penceAndThrown.length; i += 2) {
            BasinVotes x = one(kind, penceAndThrown[i]);
            Due.is("throws of kind " + kind + " with " + penceAndThrown[i], x.of(0, 4), penceAndThrown[i + 1]);
        }
    }

    private static void throwsNoMoreThanItHas() {
        Doc.terms("THROWS (pence; of these no more than it has):");
        throwing(THROWER, 0, 0, 1, 1);
        throwing(LADY, 0, 0, 1, 1);
        throwing(STRANGER, 0, 0, 1, 1, 2, 2, 3, 3, 4, 3);
        throwing(AGENT, 0, 0, 1, 1, 2, 2, 3, 2);
        BasinVotes x = one(AGENT, 1);
        x.days(1);
        Due.is("pence of one that had a penny", x.of(0, 2), 0);
        x.days(1);
        Due.is("pence of one that had none", x.of(0, 2), 0);
    }

    private static void throwsOfThrower() {
        Doc.terms("THROWER: 1.");
        throwing(THROWER, 1, 1, 20, 1, 9999, 1);
    }

    private static void throwsOfLady() {
        Doc.terms("LADY: as THROWER, and PENCE by 20.");
        throwing(LADY, 1, 1, 19, 1, 20, 2, 39, 2, 40, 3, 9979, 499, 9980, 500, 9999, 500);
    }

    private static void throwsOfBoyAndStranger() {
        Doc.terms("BOY: 0. STRANGER: 3.");
        throwing(BOY, 0, 0, 20, 0, 9999, 0);
        throwing(STRANGER, 20, 3, 9999, 3);
    }

    private static void throwsOfAgentAndDiver() {
        Doc.terms("AGENT: as LADY, twice that. DIVER: as BOY.");
        throwing(AGENT, 19, 2, 20, 4, 39, 4, 40, 6, 9979, 998, 9980, 1000, 9999, 1000);
        throwing(DIVER, 0, 0, 20, 0, 9999, 0);
    }

    private static void afterDiving(int l, int r, int stayLeft, int stayRight) {
        BasinVotes x = lying(l, r, BOY);
        x.days(1);
        Due.is("left of " + l + ", " + r, x.basin(0, LEFT), stayLeft);
        Due.is("right of " + l + ", " + r, x.basin(0, RIGHT), stayRight);
        Due.is("pence with " + l + ", " + r, x.of(0, 2), 22);
    }

    private static void divesWhereMoreLies() {
        Doc.terms("DIVES (how many pence it takes out of the side where more lies, the left, if alike;");
        // What stays is half of what he leaves.
        afterDiving(20, 20, 18 / 2, 20 / 2);
        afterDiving(20, 21, 20 / 2, 19 / 2);
        afterDiving(21, 20, 19 / 2, 20 / 2);
        afterDiving(9999, 9999, 9997 / 2, 9999 / 2);
        afterDiving(0, 2, 0, 0);
    }

    private static void diving(int kind, int l, int r, int taken) {
        Due.is("dives of kind " + kind + " into " + l + ", " + r, lying(l, r, kind).acts(0, 0, 1), taken);
    }

    private static void divesNoMoreThanLieThere() {
        Doc.terms("no more than lie there):");
        for (int kind = BOY; kind <= DIVER; kind += DIVER - BOY) {
            diving(kind, 0, 0, 0);
            diving(kind, 1, 0, 1);
            diving(kind, 0, 1, 1);
            // Two lie there, but not on one side.
            diving(kind, 1, 1, 1);
            diving(kind, 2, 0, 2);
            diving(kind, 0, 2, 2);
            diving(kind, 2, 1, 2);
        }
    }

    private static void divesOfMost() {
        Doc.terms("THROWER: 0. LADY: as THROWER. BOY: 2. STRANGER: as THROWER. AGENT: as LADY.");
        int[] taken = {0, 0, 2, 0, 0};
        for (int kind = THROWER; kind <= AGENT; kind++) {
            diving(kind, 3, 0, taken[kind]);
            diving(kind, 9999, 9999, taken[kind]);
        }
    }

    private static void divesOfDiver() {
        Doc.terms("DIVER: as BOY, and a tenth of l and r together.");
        diving(DIVER, 9, 0, 2);
        diving(DIVER, 10, 0, 3);
        diving(DIVER, 0, 10, 3);
        diving(DIVER, 5, 4, 2);
        diving(DIVER, 5, 5, 3);
        diving(DIVER, 19, 0, 3);
        diving(DIVER, 11, 9, 4);
        diving(DIVER, 9999, 0, 1001);
        diving(DIVER, 9999, 9999, 2001);
    }

    private static void earns() {
        Doc.terms("EARNS (PENCE more a day): THROWER: 2. LADY: as THROWER, and 1. BOY: 0. STRANGER: as THROWER, and 2. "
            + "AGENT: as LADY, less 3. DIVER: as BOY. (Others as the KIND above.)");
        int[] earned = {2, 3, 0, 4, 0, 0};
        int[] thrown = {1, 1, 0, 3, 0, 0};
        for (int kind : ALL_KINDS) {
            BasinVotes x = one(kind, 0);
            Due.is("earns of kind " + kind, x.of(0, 5), earned[kind]);
            x.days(1);
            Due.is("pence of kind " + kind + " a day after it had none", x.of(0, 2), earned[kind] - thrown[kind]);
            x.set(0, PENCE, 9999);
            Due.is("earns of kind " + kind + " with 9999", x.of(0, 5), earned[kind]);
        }
    }
}
