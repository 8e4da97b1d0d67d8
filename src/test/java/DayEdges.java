/** The basin, the people and how a DAY goes, as section 1 tells them: what is there at first, what is full, what is alike. */
final class DayEdges extends Towns {
    private DayEdges() {
    }

    static void all() {
        dayAtFirstAndAtMost();
        questionOfADay();
        whatLiesAtFirst();
        heldAtFirst();
        bribeAtFirst();
        peopleAtMost();
        kindsUnderKinds();
        leansAtFirst();
        penceAtFirst();
        awayAtFirst();
        peopleByNumbers();
        thoseAwayDoNothing();
        onlyItsQuestion();
        earnsAtMost();
        earnsFirst();
        throwsAtMost();
        throwsByWhatLaysBefore();
        divesAtMost();
        netOfMore();
        netOfAlike();
        halfStays();
        aDayMore();
    }

    private static void dayAtFirstAndAtMost() {
        Doc.terms("DAY: 0 at first (99999 at most).");
        Due.is("day", new BasinVotes().now(0), 0);
        BasinVotes x = late();
        Due.is("day", x.now(0), 99900);
        Due.is("to day 100000", x.days(100), STATE);
        x.days(99);
        Due.is("day", x.now(0), 99999);
        Due.is("a day more", x.days(1), STATE);
        Due.is("day", x.now(0), 99999);
    }

    private static void questionOfADay() {
        Doc.terms("QUESTIONS 0 to 5: that of a DAY is its rest by 6.");
        BasinVotes x = with(THROWER);
        x.set(0, LEANS, 63);
        for (int day = 0; day < 14; day++) {
            Due.is("question of day " + day, x.now(1), day % 6);
            x.held(0);
            Due.is("the question that is asked on day " + day, x.days(1), 1 << day % 6);
        }
        x.days(82);
        Due.is("question of day 96", x.now(1), 0);
        Due.is("question -1", x.basin(-1, 0), BEYOND);
        Due.is("question 6", x.basin(6, 0), BEYOND);
    }

    private static void whatLiesAtFirst() {
        Doc.terms("For each LEFT and RIGHT (pence that lie there: 0 to 9999; 0 at first).");
        BasinVotes x = new BasinVotes();
        for (int q = 0; q < 6; q++) {
            for (int side = LEFT; side <= RIGHT; side++) {
                Due.is("lies at first", x.basin(q, side), 0);
                Due.is("10000", x.lies(q, side, 10000), BEYOND);
                Due.is("-1", x.lies(q, side, -1), BEYOND);
                Due.is("9999", x.lies(q, side, 9999), 0);
                Due.is("0", x.lies(q, side, 0), 9999);
                Due.is("as it was", x.lies(q, side, q * 2 + side), 0);
            }
        }
        for (int q = 0; q < 6; q++) {
            Due.is("left of " + q, x.basin(q, LEFT), q * 2);
            Due.is("right of " + q, x.basin(q, RIGHT), q * 2 + 1);
        }
    }

    private static void heldAtFirst() {
        Doc.terms("HELD: the set of those in which the town is for the left (none at first).");
        BasinVotes x = new BasinVotes();
        Due.is("held at first", x.now(2), 0);
        for (int q = 0; q < 6; q++) {
            Due.is("question " + q + " at first", x.basin(q, 2), 0);
        }
        x.lies(5, LEFT, 1);
        Due.is("held before the net", x.now(2), 0);
        Due.is("held behind it", x.days(6), 32);
    }

    private static void bribeAtFirst() {
        Doc.terms("BRIBE: 0 left, 1 right (0 at first).");
        BasinVotes x = one(AGENT, 9999);
        Due.is("bribe at first", x.now(3), 0);
        Due.is("side at first", x.acts(0, 0, 0), LEFT);
        x.bribe(1);
        Due.is("side", x.acts(0, 0, 0), RIGHT);
    }

    private static void peopleAtMost() {
        Doc.terms("PEOPLE 0, 1, .. (at most 8)");
        BasinVotes x = new BasinVotes();
        for (int who = 0; who < 8; who++) {
            Due.is("nobody of the number " + who, x.of(who, 0), BEYOND);
            Due.is("one more", x.person(THROWER), who);
        }
        Due.is("a ninth", x.person(THROWER), FULL);
        Due.is("people", x.count(0), 8);
        Due.is("nobody of the number 8", x.of(8, 0), BEYOND);
    }

    private static void kindsUnderKinds() {
        Doc.terms("are of KINDS: 0 THROWER, 1 LADY under THROWER, 2 BOY under THROWER, 3 STRANGER under THROWER, "
            + "4 AGENT under LADY, 5 DIVER under BOY;");
        int[] above = {-1, THROWER, THROWER, THROWER, LADY, BOY};
        for (int kind : ALL_KINDS) {
            BasinVotes x = with(kind);
            Due.is("kind", x.of(0, 0), kind);
            for (int other : ALL_KINDS) {
                // No kind is more than two below another.
                boolean under = other == kind || other == above[kind] || above[kind] > 0 && other == above[above[kind]];
                Due.is("one of kind " + kind + " as " + other, x.as(0, other), under ? 20 : KIND);
            }
        }
    }

    private static void leansAtFirst() {
        Doc.terms("each LEANS (the set of QUESTIONS in which it is for the left; none at first),");
        for (int kind : ALL_KINDS) {
            Due.is("leans at first of kind " + kind, with(kind).of(0, LEANS), 0);
        }
        BasinVotes x = with(THROWER);
        x.set(0, LEANS, 63);
        Due.is("held by one that leans to all", x.days(6), 63);
        x.set(0, LEANS, 0);
        Due.is("held by one that leans to none", x.days(6), 0);
    }

    private static void penceAtFirst() {
        Doc.terms("with PENCE (0 to 9999; 20 at first),");
        for (int kind : ALL_KINDS) {
            BasinVotes x = with(kind);
            Due.is("pence at first of kind " + kind, x.of(0, PENCE), 20);
            Due.is("10000", x.set(0, PENCE, 10000), BEYOND);
            Due.is("-1", x.set(0, PENCE, -1), BEYOND);
            Due.is("9999", x.set(0, PENCE, 9999), 20);
            Due.is("0", x.set(0, PENCE, 0), 9999);
        }
    }

    private static void awayAtFirst() {
        Doc.terms("AWAY (1) or not (0; at first).");
        for (int kind : ALL_KINDS) {
            BasinVotes x = with(kind);
            Due.is("away at first of kind " + kind, x.of(0, AWAY), 0);
            Due.is("2", x.set(0, AWAY, 2), BEYOND);
            Due.is("-1", x.set(0, AWAY, -1), BEYOND);
        }
        BasinVotes x = with(THROWER);
        x.set(0, AWAY, 1);
        x.days(1);
        Due.is("pence of one away", x.of(0, PENCE), 20);
        x.set(0, AWAY, 0);
        x.days(1);
        Due.is("pence of one that is back", x.of(0, PENCE), 21);
    }

    private static void peopleByNumbers() {
        Doc.terms("A DAY goes: PEOPLE by numbers that aren't AWAY, in its QUESTION:");
        // A boy behind a lady takes what she threw; ahead of her he finds nothing.
        BasinVotes x = with(LADY, BOY);
        x.days(1);
        Due.is("pence of the boy behind her", x.of(1, PENCE), 22);
        x = with(BOY, LADY);
        x.days(1);
        Due.is("pence of the boy ahead of her", x.of(0, PENCE), 20);
        // Number 0 comes first and number 7 last: only the boy between them finds a coin.
        x = with(BOY, BOY, BOY, BOY, BOY, BOY, THROWER, BOY);
        x.days(1);
        Due.is("pence of the first", x.of(0, PENCE), 20);
        Due.is("pence of the last but two", x.of(5, PENCE), 20);
        Due.is("pence of the last", x.of(7, PENCE), 21);
    }

    private static void thoseAwayDoNothing() {
        BasinVotes x = lying(10, 0, STRANGER, BOY, DIVER, LADY);
        for (int who = 0; who < 4; who++) {
            x.set(who, AWAY, 1);
        }
        x.days(1);
        for (int who = 0; who < 4; who++) {
            Due.is("pence of one away", x.of(who, PENCE), 20);
        }
        Due.is("left, nobody coming", x.basin(0, LEFT), 5);
        Due.is("right, nobody coming", x.basin(0, RIGHT), 0);
        x = with(THROWER, THROWER, THROWER);
        x.set(1, AWAY, 1);
        x.days(1);
        Due.is("one behind one that is away comes", x.of(2, PENCE), 21);
    }

    private static void onlyItsQuestion() {
        BasinVotes x = with(THROWER, BOY);
        for (int q = 0; q < 6; q++) {
            x.lies(q, LEFT, 100);
            x.lies(q, RIGHT, 50);
        }
        x.days(5);
        for (int q = 0; q < 5; q++) {
            Due.is("left of question " + q, x.basin(q, LEFT), 98 / 2);
            Due.is("right of question " + q, x.basin(q, RIGHT), 51 / 2);
        }
        Due.is("left of question 5, not yet asked", x.basin(5, LEFT), 100);
        Due.is("right of question 5, not yet asked", x.basin(5, RIGHT), 50);
        x.days(2);
        Due.is("left of question 5", x.basin(5, LEFT), 98 / 2);
        Due.is("left of question 0, asked twice", x.basin(0, LEFT), 47 / 2);
        Due.is("left of question 1, asked once", x.basin(1, LEFT), 98 / 2);
    }

    private static void afterADay(int kind, int pence, int then) {
        BasinVotes x = one(kind, pence);
        x.days(1);
        Due.is("pence of kind " + kind + " that had " + pence, x.of(0, PENCE), then);
    }

    private static void earnsAtMost() {
        Doc.terms("each EARNS (9999 at most),");
        afterADay(THROWER, 9996, 9998 - 1);
        afterADay(THROWER, 9997, 9999 - 1);
        afterADay(THROWER, 9998, 9999 - 1);
        afterADay(THROWER, 9999, 9999 - 1);
        afterADay(STRANGER, 9995, 9999 - 3);
        afterADay(STRANGER, 9996, 9999 - 3);
        afterADay(STRANGER, 9999, 9999 - 3);
        // With 10000 she would throw 501.
        afterADay(LADY, 9996, 9999 - 500);
        afterADay(LADY, 9997, 9999 - 500);
        afterADay(LADY, 9999, 9999 - 500);
    }

    private static void earnsFirst() {
        // What one earns is there to be thrown.
        afterADay(THROWER, 0, 1);
        afterADay(STRANGER, 0, 1);
        afterADay(LADY, 16, 16 + 3 - 1);
        afterADay(LADY, 17, 17 + 3 - 2);
    }

    private static void throwsAtMost() {
        Doc.terms("then THROWS to its SIDE (9999 at most lie there),");
        for (int side = LEFT; side <= RIGHT; side++) {
            BasinVotes x = with(AGENT);
            x.bribe(side);
            x.lies(0, side, 9999);
            x.days(1);
            Due.is("what stays of a full side", x.basin(0, side), 4999);
            Due.is("the other side", x.basin(0, 1 - side), 0);
            Due.is("pence of one that threw onto it", x.of(0, PENCE), 16);
            x = with(AGENT);
            x.bribe(side);
            x.lies(0, side, 9990);
            x.days(1);
            Due.is("what stays of 9990 and 4", x.basin(0, side), 9994 / 2);
        }
        // A penny onto 9999 is not one more than 9999.
        BasinVotes x = lying(9999, 9999, THROWER);
        x.set(0, LEANS, 63);
        Due.is("both full", x.days(1), 0);
    }

    private static void throwsByWhatLaysBefore() {
        // 20 ahead as she comes: she throws to hers, though it is more than 20 ahead then.
        BasinVotes x = lying(20, 0, LADY);
        x.set(0, LEANS, 1);
        x.days(1);
        Due.is("left, 20 and 2", x.basin(0, LEFT), 11);
        x = lying(21, 0, LADY);
        x.set(0, LEANS, 1);
        x.days(1);
        Due.is("right, where she threw 2", x.basin(0, RIGHT), 1);
        // The second lady sees the first one's coins: 21 with 403.
        x = with(LADY, LADY);
        x.set(0, PENCE, 400);
        x.set(1, PENCE, 400);
        x.days(1);
        Due.is("left, of the second", x.basin(0, LEFT), 21 / 2);
        Due.is("right, of the first", x.basin(0, RIGHT), 21 / 2);
    }

    private static void purse(int kind, int pence, int then, int stays) {
        BasinVotes x = lying(0, 100, kind);
        x.set(0, PENCE, pence);
        x.days(1);
        Due.is("pence of kind " + kind + " that had " + pence, x.of(0, PENCE), then);
        Due.is("what stays of 100", x.basin(0, RIGHT), stays);
    }

    private static void divesAtMost() {
        Doc.terms("then DIVES (9999 PENCE at most).");
        purse(BOY, 9996, 9998, 49);
        purse(BOY, 9997, 9999, 49);
        purse(BOY, 9998, 9999, 49);
        purse(BOY, 9999, 9999, 49);
        purse(DIVER, 9987, 9999, 44);
        purse(DIVER, 9988, 9999, 44);
        purse(DIVER, 9999, 9999, 44);
    }

    private static void net(int l, int r, int before, int then) {
        BasinVotes x = lying(l, r);
        x.held(before);
        Due.is("held " + before + " with " + l + ", " + r, x.days(1), then);
    }

    private static void netOfMore() {
        Doc.terms("Then THE NET: if more lies LEFT: the town is for the left in that; if more lies RIGHT: it isn't;");
        net(1, 0, 0, 1);
        net(1, 0, 63, 63);
        net(9999, 9998, 62, 63);
        net(0, 1, 0, 0);
        net(0, 1, 63, 62);
        net(9998, 9999, 63, 62);
        // Halves would be alike.
        net(3, 2, 0, 1);
        net(2, 3, 63, 62);
    }

    private static void netOfAlike() {
        Doc.terms("alike: as it was;");
        net(0, 0, 0, 0);
        net(0, 0, 63, 63);
        net(7, 7, 0, 0);
        net(7, 7, 1, 1);
        net(9999, 9999, 62, 62);
        net(9999, 9999, 63, 63);
    }

    private static void halfStays() {
        Doc.terms("and of each side half stays (cut).");
        int[] lay = {0, 1, 2, 3, 4, 5, 9998, 9999};
        for (int v : lay) {
            for (int side = LEFT; side <= RIGHT; side++) {
                BasinVotes x = new BasinVotes();
                x.lies(0, side, v);
                x.days(1);
                Due.is("half of " + v, x.basin(0, side), v / 2);
                Due.is("the other side", x.basin(0, 1 - side), 0);
            }
        }
    }

    private static void aDayMore() {
        Doc.terms("DAY is 1 more.");
        BasinVotes x = new BasinVotes();
        for (int day = 0; day < 13; day++) {
            Due.is("day", x.now(0), day);
            x.days(1);
        }
    }
}
