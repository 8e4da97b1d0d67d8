/** Findings: their numbers, and the order in which each act asks for them. */
final class FindingEdges extends Towns {
    private FindingEdges() {
    }

    static void all() {
        numbers();
        orderOfThePeople();
        orderOfTheDays();
        orderOfTheBest();
        orderOfTheText();
        orderOfTheSheets();
        orderOfCopy();
        orderOfBookAndRead();
        quotientsAreCut();
        setsAreBits();
    }

    private static void numbers() {
        Doc.terms("FINDINGS are answers below -1000000000: -1000000001 BEYOND, -1000000002 FULL, -1000000003 KIND, "
            + "-1000000004 NONE, -1000000005 STATE, -1000000006 MISSING, -1000000007 SIZE (in longs, too).");
        BasinVotes x = eight();
        Due.is("beyond", x.now(7), -1000000001);
        Due.is("full", x.person(THROWER), -1000000002);
        Due.is("kind", x.as(0, LADY), -1000000003);
        Due.is("none", x.undo(), -1000000004);
        Due.is("state", late().days(100), -1000000005);
        Due.is("missing", x.lays(0), -1000000006);
        Due.is("size", x.sheet(0, 8, -1), -1000000007);
        Due.is("beyond in a long", x.write(4, 0, 0L), -1000000001L);
        Due.is("missing in a long", x.write(0, 0, 0L), -1000000006L);
    }

    private static void orderOfThePeople() {
        Doc.terms("Each act tells its findings in the order in which they are asked;");
        BasinVotes x = eight();
        Due.is("person: beyond comes ahead of full", x.person(6), BEYOND);
        Due.is("person: beyond comes ahead of full", x.person(-1), BEYOND);
        Due.is("person: full", x.person(0), FULL);
        Due.is("as: no such one comes ahead of kind", with(THROWER).as(1, LADY), BEYOND);
        Due.is("as: no such kind comes ahead of kind", with(THROWER).as(0, 6), BEYOND);
        Due.is("as: kind", with(THROWER).as(0, LADY), KIND);
    }

    private static void orderOfTheDays() {
        Due.is("days: beyond comes ahead of state", late().days(101), BEYOND);
        Due.is("days: state", late().days(100), STATE);
        BasinVotes x = new BasinVotes();
        Due.is("flips: beyond comes ahead of none", x.flips(6), BEYOND);
        Due.is("flips: none", x.flips(5), NONE);
        Due.is("rich: beyond comes ahead of none", x.rich(0, 9999), BEYOND);
        Due.is("rich: beyond comes ahead of none", with(BOY).rich(0, 10000), BEYOND);
        Due.is("rich: none", with(BOY).rich(0, 9999), NONE);
    }

    private static void orderOfTheBest() {
        BasinVotes x = new BasinVotes();
        Due.is("buys: beyond comes ahead of none", x.buys(0, 0, 1), BEYOND);
        Due.is("buys: beyond comes ahead of none", with(BOY).buys(0, 0, 61), BEYOND);
        Due.is("buys: none", with(BOY).buys(0, 0, 60), NONE);
        Due.is("swing: beyond comes ahead of none", x.swing(61), BEYOND);
        Due.is("swing: none", x.swing(60), NONE);
        Due.is("richest: beyond comes ahead of none", x.richest(201), BEYOND);
        Due.is("richest: beyond comes ahead of none", x.richest(-1), BEYOND);
        Due.is("richest: none", x.richest(200), NONE);
    }

    private static void orderOfTheText() {
        BasinVotes x = new BasinVotes();
        feedAll(x, " ".repeat(120));
        Due.is("feed: beyond comes ahead of full", x.feed(0, 5), BEYOND);
        Due.is("feed: beyond comes ahead of full", x.feed(0, 0), BEYOND);
        Due.is("feed: full", x.feed(0, 4), FULL);
    }

    private static void orderOfTheSheets() {
        BasinVotes x = new BasinVotes();
        Due.is("sheet: no such sheet comes ahead of size", x.sheet(4, 8, -1), BEYOND);
        Due.is("sheet: other bits come ahead of size", x.sheet(0, 9, -1), BEYOND);
        Due.is("sheet: size", x.sheet(0, 8, -1), SIZE);
        Due.is("write: no such sheet comes ahead of missing", x.write(-1, 0, 0), BEYOND);
        Due.is("write: missing comes ahead of no such number", x.write(0, -1, 0), MISSING);
        Due.is("write: missing comes ahead of no such number", x.write(0, 40, 0), MISSING);
        Due.is("lays: no such sheet comes ahead of missing", x.lays(4), BEYOND);
    }

    private static void orderOfCopy() {
        BasinVotes x = new BasinVotes();
        x.sheet(0, 8, 2);
        x.sheet(1, 16, 2);
        Due.is("copy: no such sheet comes ahead of missing", x.copy(2, 0, 4, 0, 0), BEYOND);
        Due.is("copy: no such sheet comes ahead of missing", x.copy(4, 0, 2, 0, 0), BEYOND);
        Due.is("copy: missing comes ahead of kind and beyond", x.copy(2, -1, 0, 0, 9), MISSING);
        Due.is("copy: missing comes ahead of kind and beyond", x.copy(0, 0, 2, -1, -1), MISSING);
        Due.is("copy: kind comes ahead of beyond", x.copy(0, -1, 1, 0, 1), KIND);
        Due.is("copy: kind comes ahead of beyond", x.copy(1, 0, 0, 0, 3), KIND);
    }

    private static void orderOfBookAndRead() {
        BasinVotes x = with(LADY, BOY);
        Due.is("book: missing comes ahead of person", x.book(0, 2), MISSING);
        Due.is("book: no such sheet comes ahead of missing", x.book(4, 0), BEYOND);
        Due.is("read: missing comes ahead of person", x.read(0, 2, 0), MISSING);
        Due.is("read: missing comes ahead of one and the same", x.read(0, 1, 1), MISSING);
        Due.is("read: no such sheet comes ahead of missing", x.read(-1, 0, 1), BEYOND);
    }

    private static void quotientsAreCut() {
        Doc.terms("Quotients are cut.");
        Due.is("39 by 20", one(LADY, 39).of(0, 4), 1 + 1);
        Due.is("19 by 10", lying(19, 0, DIVER).acts(0, 0, 1), 2 + 1);
        BasinVotes x = lying(3, 1);
        x.days(1);
        Due.is("half of 3", x.basin(0, LEFT), 1);
        Due.is("half of 1", x.basin(0, RIGHT), 0);
    }

    private static void setsAreBits() {
        Doc.terms("Sets are told by bits.");
        for (int q = 0; q < 6; q++) {
            BasinVotes x = with(THROWER);
            x.set(0, LEANS, 1 << q);
            x.held(1 << q);
            for (int other = 0; other < 6; other++) {
                Due.is("side of one that leans " + (1 << q), x.acts(0, other, 0), other == q ? LEFT : RIGHT);
                Due.is("question " + other + " in " + (1 << q), x.basin(other, 2), other == q ? 1 : 0);
            }
        }
        for (int who = 0; who < 8; who++) {
            BasinVotes x = with(0, 0, 0, 0, 0, 0, 0, 0);
            x.set(who, LEANS, 63);
            Due.is("person " + who + " in a set", x.now(4), 1 << who);
        }
    }
}
