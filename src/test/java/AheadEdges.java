/** Promises 13 to 17: days, and what is seen some days ahead. */
final class AheadEdges extends Towns {
    private AheadEdges() {
    }

    static void all() {
        daysGo();
        daysBeyond();
        daysState();
        onAhead();
        onBeyond();
        thenAhead();
        thenBeyond();
        flipsFirst();
        flipsFarAhead();
        flipsBeyond();
        flipsNone();
        richFirst();
        richBeyond();
        richNone();
    }

    private static void daysGo() {
        Doc.promise(13, "n DAYS go (1 to 100): HELD then.");
        BasinVotes x = with(THROWER);
        x.set(0, LEANS, 63);
        Due.is("a day", x.days(1), 1);
        Due.is("five more", x.days(5), 63);
        Due.is("day", x.now(0), 6);
        Due.is("pence", x.of(0, PENCE), 26);
        x.held(0);
        Due.is("a hundred more", x.days(100), 63);
        Due.is("day", x.now(0), 106);
        Due.is("pence", x.of(0, PENCE), 126);
        // Held is told as it is then, not as it was in between: the stranger's coins have turned question 1.
        BasinVotes y = with(STRANGER);
        y.held(2);
        Due.is("a day", y.days(1), 3);
        Due.is("a day", y.days(1), 1);
        Due.is("nobody there", new BasinVotes().days(100), 0);
    }

    private static void daysBeyond() {
        Doc.promise(13, "BEYOND.");
        range("days", Towns::eight, BasinVotes::days, 1, 100);
    }

    private static void daysState() {
        Doc.promise(13, "STATE: DAY would be above 99999.");
        BasinVotes x = late();
        Due.is("to day 100000", x.days(100), STATE);
        Due.is("to day 99950", x.days(50), 0);
        Due.is("to day 100000", x.days(50), STATE);
        Due.is("to day 100050", x.days(100), STATE);
        Due.is("day", x.now(0), 99950);
        Due.is("to day 99999", x.days(49), 0);
        Due.is("day", x.now(0), 99999);
        Due.is("question", x.now(1), 3);
        Due.is("to day 100000", x.days(1), STATE);
        Due.is("day", x.now(0), 99999);
        // Only days that go are too many: ahead they can be looked at.
        Due.is("pence 200 days ahead", x.on(0, 200), 9998);
        Due.is("right 200 days ahead", x.then(0, 200, RIGHT), 0);
    }

    private static void onAhead() {
        Doc.promise(14, "PENCE of one n DAYS (0 to 200) AHEAD.");
        BasinVotes x = eight();
        for (int who = 0; who < 8; who++) {
            x.set(who, PENCE, 100 + who);
            Due.is("now", x.on(who, 0), 100 + who);
        }
        BasinVotes y = with(THROWER);
        for (int n = 0; n <= 200; n++) {
            Due.is(n + " days ahead", y.on(0, n), 20 + n);
        }
        Due.is("pence now", y.of(0, PENCE), 20);
        y.set(0, PENCE, 9999);
        Due.is("9999 at most", y.on(0, 200), 9998);
        y.set(0, AWAY, 1);
        Due.is("away", y.on(0, 200), 9999);
        // As days go: the same as is there then.
        BasinVotes z = eight();
        int ahead = z.on(5, 200);
        z.days(100);
        z.days(100);
        Due.is("there then", z.of(5, PENCE), ahead);
    }

    private static void onBeyond() {
        Doc.promise(14, "BEYOND.");
        range("on, person", Towns::eight, (x, v) -> x.on(v, 0), 0, 7);
        range("on, person of nobody", BasinVotes::new, (x, v) -> x.on(v, 0), 0, -1);
        range("on, n", Towns::eight, (x, v) -> x.on(7, v), 0, 200);
    }

    private static void thenAhead() {
        Doc.promise(15, "LEFT (what 0), RIGHT (1), 1 if the town is for the left, else 0 (2), of a QUESTION n DAYS (0 to 200) AHEAD.");
        for (int q = 0; q < 6; q++) {
            BasinVotes x = new BasinVotes();
            x.lies(q, LEFT, 9);
            x.lies(q, RIGHT, 4);
            Due.is("left now", x.then(q, 0, 0), 9);
            Due.is("right now", x.then(q, 0, 1), 4);
            Due.is("not for the left now", x.then(q, 0, 2), 0);
            Due.is("left before its net", x.then(q, q, 0), 9);
            Due.is("not for the left before its net", x.then(q, q, 2), 0);
            Due.is("left behind its net", x.then(q, q + 1, 0), 4);
            Due.is("right behind its net", x.then(q, q + 1, 1), 2);
            Due.is("for the left behind its net", x.then(q, q + 1, 2), 1);
        }
        // In question 1, asked on day 199, too: the boy takes 2 of 2 and 1, or of 1 and 2, where more lies, then she throws
        // 3 left and the stranger 3 right: 4 and 3, or 3 and 4, by turns.
        BasinVotes x = with(BOY, LADY, STRANGER);
        x.set(1, LEANS, 63);
        int[] before = {2, 1, 1};
        int[] behind = {1, 2, 0};
        for (int what = 0; what <= 2; what++) {
            Due.is("what " + what + " 199 days ahead", x.then(1, 199, what), before[what]);
            Due.is("what " + what + " 200 days ahead", x.then(1, 200, what), behind[what]);
        }
    }

    private static void thenBeyond() {
        Doc.promise(15, "BEYOND.");
        range("then, question", Towns::eight, (x, v) -> x.then(v, 1, 0), 0, 5);
        range("then, question, held", Towns::eight, (x, v) -> x.then(v, 1, 2), 0, 5);
        range("then, n", Towns::eight, (x, v) -> x.then(5, v, 1), 0, 200);
        range("then, what", Towns::eight, (x, v) -> x.then(5, 1, v), 0, 2);
    }

    private static void flipsFirst() {
        Doc.promise(16, "In how many DAYS (1 to 200) the town is otherwise in a QUESTION than now first.");
        for (int q = 0; q < 6; q++) {
            BasinVotes x = with(THROWER);
            x.set(0, LEANS, 63);
            Due.is("to the left, question " + q, x.flips(q), q + 1);
            x.set(0, LEANS, 0);
            x.held(63);
            Due.is("from the left, question " + q, x.flips(q), q + 1);
            x.days(q + 1);
            x.held(63);
            Due.is("counted from now, question " + q, x.flips(q), 6);
        }
        // The town that turns at every net: the first time is told.
        BasinVotes x = with(BOY, LADY, STRANGER);
        x.set(1, LEANS, 63);
        x.days(100);
        x.days(99);
        Due.is("held in question 1", x.basin(1, 2), 1);
        Due.is("the first time", x.flips(1), 1);
        x.days(1);
        Due.is("the first time", x.flips(1), 6);
    }

    private static void flipsFarAhead() {
        // A thrower's penny waits until 9999 on the other side are gone: nets on days 1, 7, .. leave none at the 14th.
        BasinVotes x = with(THROWER);
        x.set(0, LEANS, 2);
        x.lies(1, RIGHT, 9999);
        Due.is("the 15th net of question 1", x.flips(1), 2 + 6 * 14);
        // The latest that a search has found. None is later than 187: by day 133 each throws the same every day, at most 33
        // lie in a question then, and all towns of such people were tried: nine nets at most go by before one turns.
        BasinVotes y = with(LADY, LADY, LADY, LADY, DIVER, LADY, DIVER, LADY);
        int[] leans = {1, 0, 1, 1, 0, 0, 1, 1};
        int[] pence = {9906, 99, 9883, 9889, 36, 93, 9844, 9875};
        for (int who = 0; who < 8; who++) {
            y.set(who, LEANS, leans[who]);
            y.set(who, PENCE, pence[who]);
        }
        y.lies(0, LEFT, 647);
        y.lies(0, RIGHT, 403);
        y.held(1);
        Due.is("the 29th net of question 0", y.flips(0), 1 + 6 * 28);
        Due.is("the day before", y.then(0, 168, 2), 1);
        Due.is("the day", y.then(0, 169, 2), 0);
    }

    private static void flipsBeyond() {
        Doc.promise(16, "BEYOND.");
        range("flips", Towns::eight, BasinVotes::flips, 0, 5);
        range("flips of nobody", BasinVotes::new, BasinVotes::flips, 0, 5);
    }

    private static void flipsNone() {
        Doc.promise(16, "NONE.");
        for (int q = 0; q < 6; q++) {
            BasinVotes x = new BasinVotes();
            Due.is("nobody there", x.flips(q), NONE);
            x.held(63);
            Due.is("nobody there", x.flips(q), NONE);
            x.lies(q, LEFT, 9);
            Due.is("more lies where it is for", x.flips(q), NONE);
            x.person(THROWER);
            x.set(0, LEANS, 63);
            Due.is("one throws where it is for", x.flips(q), NONE);
            x.lies(q, LEFT, 0);
            x.set(0, LEANS, 0);
            x.set(0, AWAY, 1);
            Due.is("one that would turn it is away", x.flips(q), NONE);
        }
    }

    private static void richFirst() {
        Doc.promise(17, "In how many DAYS (0 to 200) PENCE of one are v (0 to 9999) or more first.");
        BasinVotes x = with(THROWER);
        Due.is("as many as it has", x.rich(0, 20), 0);
        Due.is("fewer", x.rich(0, 19), 0);
        Due.is("none", x.rich(0, 0), 0);
        for (int n = 1; n <= 200; n++) {
            Due.is(n + " more", x.rich(0, 20 + n), n);
        }
        // A lady with none has 2, 4, ..: more than 1 or 3.
        BasinVotes y = one(LADY, 0);
        Due.is("1 or more", y.rich(0, 1), 1);
        Due.is("2 or more", y.rich(0, 2), 1);
        Due.is("3 or more", y.rich(0, 3), 2);
        // An agent has fewer every day: only now has he so many.
        Due.is("now, though not then", with(AGENT).rich(0, 20), 0);
        Due.is("9999", one(BOY, 9999).rich(0, 9999), 0);
        BasinVotes z = lying(0, 2, BOY);
        z.set(0, PENCE, 9997);
        Due.is("9999 in a day", z.rich(0, 9999), 1);
        // Nobody but the eighth earns.
        BasinVotes w = with(BOY, BOY, BOY, BOY, BOY, BOY, BOY, THROWER);
        for (int who = 0; who < 7; who++) {
            w.set(who, AWAY, 1);
        }
        Due.is("the eighth", w.rich(7, 25), 5);
    }

    private static void richBeyond() {
        Doc.promise(17, "BEYOND.");
        range("rich, person", Towns::eight, (x, v) -> x.rich(v, 0), 0, 7);
        range("rich, person of nobody", BasinVotes::new, (x, v) -> x.rich(v, 0), 0, -1);
        range("rich, v", Towns::eight, (x, v) -> x.rich(0, v), 0, 9999);
    }

    private static void richNone() {
        Doc.promise(17, "NONE.");
        BasinVotes x = with(THROWER);
        Due.is("in 200 days", x.rich(0, 220), 200);
        Due.is("in 201 days", x.rich(0, 221), NONE);
        Due.is("never", x.rich(0, 9999), NONE);
        Due.is("an agent with more", with(AGENT).rich(0, 21), NONE);
        x.set(0, AWAY, 1);
        Due.is("away", x.rich(0, 21), NONE);
        // A thrower that throws a penny a day never keeps 9999.
        Due.is("9999 behind the throw", one(THROWER, 9998).rich(0, 9999), NONE);
    }
}
