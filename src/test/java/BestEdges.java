/** Promises 18 to 23: what is best. */
final class BestEdges extends Towns {
    private BestEdges() {
    }

    static void all() {
        kindOfMost();
        kindOfSeveral();
        kindBeyond();
        leanOfMost();
        leanOfSeveral();
        leanBeyond();
        buysLeast();
        buysSixtyDaysAhead();
        buysBeyond();
        buysNone();
        swingOfMost();
        swingSixtyDaysAhead();
        swingOfThoseNotAway();
        swingOfSeveral();
        swingBeyond();
        swingNone();
        paysMost();
        paysSixtyDaysAhead();
        paysAlike();
        paysBeyond();
        richestOfAll();
        richestOfSeveral();
        richestBeyond();
        richestNone();
    }

    /** One that would turn question 5 to the left on the 60th day: 300 on the right are gone by its tenth net. */
    private static BasinVotes turnsOnDay60() {
        BasinVotes x = with(THROWER);
        x.set(0, LEANS, 32);
        x.lies(5, RIGHT, 300);
        return x;
    }

    private static void kindOfMost() {
        Doc.promise(18, "The KIND as one of which one has most PENCE n DAYS (1 to 60) AHEAD;");
        // With none: thrower 2 - 1, lady 3 - 1, stranger 4 - 3, others none.
        Due.is("a lady, by a day", one(BOY, 0).kind(0, 1), LADY);
        Due.is("a boy, by a day", lying(2, 0, THROWER).kind(0, 1), BOY);
        Due.is("a diver, by a day", lying(0, 10, THROWER).kind(0, 1), DIVER);
        Due.is("a diver, by a day, of 9999", lying(9999, 9999, AGENT).kind(0, 1), DIVER);
        // A diver takes 60 of 280 by the 31st day: 30, 14, 7, 4, 3 and 2; a thrower has 60 more by the 60th.
        BasinVotes x = lying(280, 0, THROWER);
        Due.is("a diver, by 59 days", x.kind(0, 59), DIVER);
        Due.is("a thrower, by 60 days", x.kind(0, 60), THROWER);
        x.turn(0, AGENT);
        Due.is("whatever it is", x.kind(0, 59), DIVER);
        Due.is("whatever it is", x.kind(0, 60), THROWER);
        // As all goes, with the others there: the boy ahead leaves nothing to dive for.
        BasinVotes y = lying(2, 0, BOY, THROWER);
        Due.is("behind a boy that leaves none", y.kind(1, 1), THROWER);
    }

    private static void kindOfSeveral() {
        Doc.promise(18, "of several the least.");
        // By a day, with 20: thrower, lady and stranger 21.
        Due.is("thrower, lady, stranger", with(STRANGER).kind(0, 1), THROWER);
        // A boy and a diver take 2 of 2.
        Due.is("boy, diver", lying(0, 2, DIVER).kind(0, 1), BOY);
        BasinVotes x = with(AGENT);
        x.set(0, AWAY, 1);
        Due.is("all, away", x.kind(0, 60), THROWER);
        // By a day, with 9999: thrower 9998, lady 9499, stranger 9996, agent 8999, boy and diver 9999.
        Due.is("boy, diver with 9999", one(LADY, 9999).kind(0, 1), BOY);
    }

    private static void kindBeyond() {
        Doc.promise(18, "BEYOND.");
        range("kind, person", Towns::eight, (x, v) -> x.kind(v, 1), 0, 7);
        range("kind, person of nobody", BasinVotes::new, (x, v) -> x.kind(v, 1), 0, -1);
        range("kind, n", Towns::eight, (x, v) -> x.kind(7, v), 1, 60);
    }

    private static void leanOfMost() {
        Doc.promise(19, "The set (0 to 63) that one had best LEAN to now, so that HELD n DAYS (1 to 40) AHEAD is unlike HELD as it is "
            + "in most QUESTIONS;");
        BasinVotes x = with(THROWER);
        int[] best = {1, 3, 7, 15, 31, 63, 63};
        for (int n = 1; n <= 7; n++) {
            Due.is("by " + n + " days", x.lean(0, n), best[n - 1]);
        }
        x.held(63);
        Due.is("from the left", x.lean(0, 6), 0);
        x.held(42);
        Due.is("from each as it is", x.lean(0, 6), 63 - 42);
        x.set(0, LEANS, 63);
        Due.is("whatever it leans to", x.lean(0, 6), 63 - 42);
        // 40 on the right of question 3 are gone by its seventh net, on the 40th day.
        BasinVotes y = with(THROWER);
        y.lies(3, RIGHT, 40);
        Due.is("by 39 days", y.lean(0, 39), 63 - 8);
        Due.is("by 40 days", y.lean(0, 40), 63);
        Due.is("the eighth", eightBoysButOne().lean(7, 6), 63);
    }

    private static BasinVotes eightBoysButOne() {
        BasinVotes x = with(BOY, BOY, BOY, BOY, BOY, BOY, BOY, THROWER);
        for (int who = 0; who < 7; who++) {
            x.set(who, AWAY, 1);
        }
        return x;
    }

    private static void leanOfSeveral() {
        Doc.promise(19, "of several the least.");
        for (int kind = BOY; kind <= DIVER; kind++) {
            BasinVotes x = with(kind);
            x.set(0, LEANS, 63);
            Due.is("kind " + kind + " throws as it does", x.lean(0, 40), 0);
        }
        BasinVotes x = with(THROWER);
        Due.is("on the first day only one question is asked", x.lean(0, 1), 1);
        x.set(0, AWAY, 1);
        Due.is("away", x.lean(0, 6), 0);
        BasinVotes y = with(THROWER, THROWER, THROWER);
        y.set(0, LEANS, 32);
        y.set(1, LEANS, 32);
        Due.is("question 5 alone, and that is held anyhow; in the others two are against one", y.lean(2, 6), 0);
    }

    private static void leanBeyond() {
        Doc.promise(19, "BEYOND.");
        range("lean, person", Towns::eight, (x, v) -> x.lean(v, 1), 0, 7);
        range("lean, person of nobody", BasinVotes::new, (x, v) -> x.lean(v, 1), 0, -1);
        range("lean, n", Towns::eight, (x, v) -> x.lean(7, v), 1, 40);
    }

    /** A lady for the left in question 0, where r lie right: she earns 3, and throws 1 and a 20th of all. */
    private static BasinVotes ladyAgainst(int r) {
        BasinVotes x = lying(0, r, LADY);
        x.set(0, LEANS, 1);
        return x;
    }

    private static void buysLeast() {
        Doc.promise(20, "The least PENCE (0, 10, .. to 1000) of one now with which the town is otherwise in a QUESTION "
            + "n DAYS (1 to 60) AHEAD than now.");
        Due.is("none is needed", ladyAgainst(0).buys(0, 0, 1), 0);
        // An agent with 10 throws 2; with none nothing.
        BasinVotes x = lying(0, 1, AGENT);
        Due.is("10", x.buys(0, 0, 1), 10);
        Due.is("17 would do, 10 don't", ladyAgainst(1).buys(0, 0, 1), 20);
        Due.is("97 would do, 90 don't", ladyAgainst(5).buys(0, 0, 1), 100);
        Due.is("977 would do, 970 don't", ladyAgainst(49).buys(0, 0, 1), 980);
        Due.is("997 would do, 990 don't", ladyAgainst(50).buys(0, 0, 1), 1000);
        // What it has tells nothing.
        BasinVotes y = ladyAgainst(5);
        y.set(0, PENCE, 9999);
        Due.is("100, though it has 9999", y.buys(0, 0, 1), 100);
        // From the left to the right, too.
        BasinVotes z = lying(5, 0, LADY);
        z.held(63);
        Due.is("from the left", z.buys(0, 0, 1), 100);
        Due.is("another question", z.buys(0, 1, 2), 0);
    }

    private static void buysSixtyDaysAhead() {
        Due.is("59 days", turnsOnDay60().buys(0, 5, 59), NONE);
        Due.is("60 days", turnsOnDay60().buys(0, 5, 60), 0);
        // Ahead of its day nothing is asked.
        BasinVotes x = with(THROWER);
        x.set(0, LEANS, 63);
        Due.is("question 1 by a day", x.buys(0, 1, 1), NONE);
        Due.is("question 1 by two days", x.buys(0, 1, 2), 0);
    }

    private static void buysBeyond() {
        Doc.promise(20, "BEYOND.");
        range("buys, person", Towns::eight, (x, v) -> x.buys(v, 0, 1), 0, 7);
        range("buys, person of nobody", BasinVotes::new, (x, v) -> x.buys(v, 0, 1), 0, -1);
        range("buys, question", Towns::eight, (x, v) -> x.buys(7, v, 1), 0, 5);
        range("buys, n", Towns::eight, (x, v) -> x.buys(7, 5, v), 1, 60);
    }

    private static void buysNone() {
        Doc.promise(20, "NONE.");
        Due.is("1017 would do", ladyAgainst(51).buys(0, 0, 1), NONE);
        BasinVotes x = ladyAgainst(0);
        x.held(1);
        Due.is("it is so already", x.buys(0, 0, 1), NONE);
        BasinVotes y = ladyAgainst(0);
        y.set(0, AWAY, 1);
        Due.is("away", y.buys(0, 0, 60), NONE);
    }

    private static void swingOfMost() {
        Doc.promise(21, "Who, AWAY from now on (one that isn't), makes HELD n DAYS (1 to 60) AHEAD unlike what it would be, "
            + "in most QUESTIONS (one at least);");
        Due.is("two days: who counts in two", agentAndThrower().swing(2), 1);
        // All are held but for the stranger's coins, to the right on odd days.
        BasinVotes x = with(THROWER, STRANGER);
        x.set(0, LEANS, 63);
        Due.is("the stranger, in three questions", x.swing(6), 1);
        Due.is("the stranger, in one", x.swing(2), 1);
        // Unlike what it would be, not what it is: it is for the left in question 0 either way.
        x.held(1);
        Due.is("the first day", x.swing(1), NONE);
        // The eighth of eight.
        BasinVotes y = with(BOY, BOY, BOY, BOY, BOY, BOY, BOY, THROWER);
        y.set(7, LEANS, 1);
        Due.is("the eighth", y.swing(1), 7);
    }

    /**
     * The agent throws his two pence left on the first day, the thrower one on each. With 2 on the right of question 0
     * both are needed there, and in question 1 the thrower alone.
     */
    private static BasinVotes agentAndThrower() {
        BasinVotes x = lying(0, 2, AGENT, THROWER);
        x.set(0, PENCE, 2);
        x.set(1, LEANS, 63);
        return x;
    }

    private static void swingSixtyDaysAhead() {
        Due.is("59 days", turnsOnDay60().swing(59), NONE);
        Due.is("60 days", turnsOnDay60().swing(60), 0);
    }

    private static void swingOfThoseNotAway() {
        BasinVotes x = with(THROWER, THROWER);
        x.set(0, LEANS, 63);
        x.set(1, LEANS, 63);
        Due.is("either will do", x.swing(1), NONE);
        x.set(0, AWAY, 1);
        Due.is("the one that isn't away", x.swing(1), 1);
        x.set(0, AWAY, 0);
        x.set(1, AWAY, 1);
        Due.is("the one that isn't away", x.swing(1), 0);
    }

    private static void swingOfSeveral() {
        Doc.promise(21, "of several the least.");
        Due.is("a day: both count in one", agentAndThrower().swing(1), 0);
        // Two left, one right: without 1, as without 2, it is alike.
        BasinVotes x = with(THROWER, THROWER, THROWER);
        x.set(1, LEANS, 1);
        x.set(2, LEANS, 1);
        Due.is("two against one", x.swing(1), 1);
    }

    private static void swingBeyond() {
        Doc.promise(21, "BEYOND.");
        range("swing", Towns::eight, BasinVotes::swing, 1, 60);
        range("swing of nobody", BasinVotes::new, BasinVotes::swing, 1, 60);
    }

    private static void swingNone() {
        Doc.promise(21, "NONE.");
        Due.is("nobody there", new BasinVotes().swing(1), NONE);
        BasinVotes x = with(THROWER, THROWER);
        Due.is("nothing turns", x.swing(60), NONE);
        x.set(0, LEANS, 63);
        x.set(0, AWAY, 1);
        Due.is("one that would turn it is away", x.swing(60), NONE);
        x.set(1, AWAY, 1);
        Due.is("all are away", x.swing(60), NONE);
    }

    private static void paysMost() {
        Doc.promise(22, "The BRIBE (0, 1) with which the town is for the left in most QUESTIONS n DAYS (1 to 60) AHEAD;");
        BasinVotes x = with(AGENT);
        x.bribe(1);
        Due.is("left", x.pays(1), 0);
        Due.is("left", x.pays(60), 0);
        Due.is("bribe stays", x.now(3), 1);
        // A penny makes that side more, of which the boy takes two: where it isn't thrown there is more then.
        BasinVotes y = lying(5, 5, AGENT, BOY);
        y.set(0, PENCE, 1);
        Due.is("right", y.pays(1), 1);
        y.bribe(1);
        Due.is("right, as it is", y.pays(1), 1);
        // In most questions: what is for the left anyhow counts on both.
        y.held(62);
        Due.is("right", y.pays(1), 1);
    }

    private static void paysSixtyDaysAhead() {
        // Found by a search. Bribed right, the lady's coins turn question 5 to the left at its tenth net.
        BasinVotes x = with(AGENT, LADY);
        x.set(1, PENCE, 9490);
        x.lies(5, RIGHT, 19);
        Due.is("59 days", x.pays(59), 0);
        Due.is("60 days", x.pays(60), 1);
    }

    private static void paysAlike() {
        Doc.promise(22, "alike: 0.");
        Due.is("nobody there", new BasinVotes().pays(60), 0);
        BasinVotes x = with(THROWER);
        x.bribe(1);
        Due.is("no agent", x.pays(6), 0);
        BasinVotes y = with(AGENT);
        y.set(0, AWAY, 1);
        y.bribe(1);
        Due.is("an agent that is away", y.pays(6), 0);
        // Bribed right, question 1 is for the left, where the boy takes 2 of the penny's side.
        BasinVotes z = with(AGENT, BOY);
        z.set(0, PENCE, 3);
        z.bribe(1);
        z.lies(1, LEFT, 5);
        z.lies(1, RIGHT, 5);
        Due.is("not yet alike", z.pays(2), 1);
        // Bribed left, question 0 is, as 2 more than 3 lie there then: as many, though others.
        z.lies(0, LEFT, 3);
        Due.is("another one each", z.pays(2), 0);
    }

    private static void paysBeyond() {
        Doc.promise(22, "BEYOND.");
        range("pays", Towns::eight, BasinVotes::pays, 1, 60);
        range("pays of nobody", BasinVotes::new, BasinVotes::pays, 1, 60);
    }

    private static void richestOfAll() {
        Doc.promise(23, "Who has most PENCE n DAYS (0 to 200) AHEAD;");
        BasinVotes x = eight();
        x.set(7, PENCE, 21);
        Due.is("now", x.richest(0), 7);
        // One that is away has 219; a thrower as many by 199 days, and one more by 200.
        BasinVotes y = with(BOY, THROWER);
        y.set(0, AWAY, 1);
        y.set(0, PENCE, 219);
        Due.is("now", y.richest(0), 0);
        Due.is("199 days ahead", y.richest(199), 0);
        Due.is("200 days ahead", y.richest(200), 1);
    }

    private static void richestOfSeveral() {
        Doc.promise(23, "of several the least.");
        Due.is("all alike", eight().richest(0), 0);
        BasinVotes x = eight();
        x.set(3, PENCE, 9999);
        x.set(7, PENCE, 9999);
        Due.is("two alike", x.richest(0), 3);
        BasinVotes y = with(BOY, BOY);
        y.set(0, PENCE, 0);
        y.set(1, PENCE, 0);
        Due.is("all with none", y.richest(0), 0);
    }

    private static void richestBeyond() {
        Doc.promise(23, "BEYOND.");
        range("richest", Towns::eight, BasinVotes::richest, 0, 200);
        range("richest of nobody", BasinVotes::new, BasinVotes::richest, 0, 200);
    }

    private static void richestNone() {
        Doc.promise(23, "NONE: nobody is there.");
        Due.is("nobody", new BasinVotes().richest(0), NONE);
        Due.is("nobody", new BasinVotes().richest(200), NONE);
        Due.is("one, with none and away", oneAwayWithNone().richest(200), 0);
    }

    private static BasinVotes oneAwayWithNone() {
        BasinVotes x = one(BOY, 0);
        x.set(0, AWAY, 1);
        return x;
    }
}
