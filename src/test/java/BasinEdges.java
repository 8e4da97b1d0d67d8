/** Promises 1 to 6: a new object and the basin. */
final class BasinEdges extends Towns {
    private BasinEdges() {
    }

    static void all() {
        nobodyThere();
        tapeIsEmpty();
        objectsAreTheirOwn();
        liesWhatItWas();
        liesBeyond();
        basinOfAQuestion();
        basinBeyond();
        bribeWhatItWas();
        bribeBeyond();
        heldWhatItWas();
        heldBeyond();
        nowDays();
        nowThoseForTheLeft();
        nowAllTogether();
        nowBeyond();
    }

    private static void nobodyThere() {
        Doc.promise(1, "Nobody there, nothing in the basin;");
        BasinVotes x = new BasinVotes();
        for (int what = 0; what <= 6; what++) {
            Due.is("now " + what, x.now(what), 0);
        }
        for (int what = 0; what <= 3; what++) {
            Due.is("count " + what, x.count(what), 0);
        }
        for (int q = 0; q < 6; q++) {
            for (int what = 0; what <= 2; what++) {
                Due.is("basin " + q + ", " + what, x.basin(q, what), 0);
            }
        }
        for (int which = -1; which <= 6; which++) {
            Due.is("status " + which, x.status(which), 0);
        }
        Due.is("person 0", x.of(0, 0), BEYOND);
        Due.is("richest", x.richest(0), NONE);
    }

    private static void tapeIsEmpty() {
        Doc.promise(1, "THE TAPE is empty, no image is kept.");
        Due.is("tape", new BasinVotes().count(1), 0);
        Due.is("tape", new BasinVotes().wipe(), 0);
        Due.is("text", new BasinVotes().town(), -1);
        Due.is("undo", new BasinVotes().undo(), NONE);
        Due.is("tear", new BasinVotes().tear(), 0);
        for (int s = 0; s < 4; s++) {
            Due.is("sheet " + s, new BasinVotes().lays(s), MISSING);
        }
    }

    private static void objectsAreTheirOwn() {
        BasinVotes x = eight();
        x.lies(0, LEFT, 5);
        x.feed('b', 1);
        x.image();
        x.sheet(0, 8, 1);
        x.now(7);
        BasinVotes y = new BasinVotes();
        Due.is("people of a newer one", y.count(0), 0);
        Due.is("coins of a newer one", y.now(6), 0);
        Due.is("tape of a newer one", y.count(1), 0);
        Due.is("status of a newer one", y.status(-1), 0);
        Due.is("image of a newer one", y.tear(), 0);
        Due.is("sheet of a newer one", y.lays(0), MISSING);
        Due.is("people of the older one", x.count(0), 8);
    }

    private static void liesWhatItWas() {
        Doc.promise(2, "LEFT (side 0), RIGHT (1) of a QUESTION becomes v: what it was.");
        BasinVotes x = new BasinVotes();
        Due.is("left of 0", x.lies(0, 0, 9999), 0);
        Due.is("right of 0", x.lies(0, 1, 1), 0);
        Due.is("left of 5", x.lies(5, 0, 2), 0);
        Due.is("right of 5", x.lies(5, 1, 3), 0);
        Due.is("left of 0", x.lies(0, 0, 0), 9999);
        Due.is("right of 0", x.lies(0, 1, 9999), 1);
        Due.is("left of 5", x.lies(5, 0, 2), 2);
        Due.is("right of 5", x.lies(5, 1, 4), 3);
        Due.is("right of 5", x.basin(5, 1), 4);
        Due.is("held stays", x.now(2), 0);
    }

    private static void liesBeyond() {
        Doc.promise(2, "BEYOND.");
        range("lies, question", BasinVotes::new, (x, v) -> x.lies(v, 0, 1), 0, 5);
        range("lies, side", BasinVotes::new, (x, v) -> x.lies(0, v, 1), 0, 1);
        range("lies, v left", BasinVotes::new, (x, v) -> x.lies(0, 0, v), 0, 9999);
        range("lies, v right", BasinVotes::new, (x, v) -> x.lies(5, 1, v), 0, 9999);
    }

    private static void basinOfAQuestion() {
        Doc.promise(3, "Of a QUESTION: what 0 LEFT, 1 RIGHT, 2 1 if the town is for the left, else 0.");
        for (int q = 0; q < 6; q++) {
            BasinVotes x = new BasinVotes();
            x.lies(q, LEFT, 9999);
            x.lies(q, RIGHT, 7);
            Due.is("left", x.basin(q, 0), 9999);
            Due.is("right", x.basin(q, 1), 7);
            // What lies there tells nothing before the net comes.
            Due.is("not for the left", x.basin(q, 2), 0);
            x.held(1 << q);
            Due.is("for the left", x.basin(q, 2), 1);
            x.held(63 - (1 << q));
            Due.is("not for the left", x.basin(q, 2), 0);
        }
    }

    private static void basinBeyond() {
        Doc.promise(3, "BEYOND.");
        range("basin, question", BasinVotes::new, (x, v) -> x.basin(v, 0), 0, 5);
        range("basin, question, held", BasinVotes::new, (x, v) -> x.basin(v, 2), 0, 5);
        range("basin, what", BasinVotes::new, (x, v) -> x.basin(0, v), 0, 2);
    }

    private static void bribeWhatItWas() {
        Doc.promise(4, "BRIBE becomes v: what it was.");
        BasinVotes x = new BasinVotes();
        Due.is("bribe", x.bribe(0), 0);
        Due.is("bribe", x.bribe(1), 0);
        Due.is("bribe", x.bribe(1), 1);
        Due.is("now", x.now(3), 1);
        Due.is("bribe", x.bribe(0), 1);
        Due.is("now", x.now(3), 0);
    }

    private static void bribeBeyond() {
        Doc.promise(4, "BEYOND.");
        range("bribe", BasinVotes::new, BasinVotes::bribe, 0, 1);
    }

    private static void heldWhatItWas() {
        Doc.promise(5, "HELD becomes a set (0 to 63): what it was.");
        BasinVotes x = new BasinVotes();
        Due.is("held", x.held(63), 0);
        Due.is("held", x.held(32), 63);
        Due.is("now", x.now(2), 32);
        Due.is("held", x.held(0), 32);
        Due.is("now", x.now(2), 0);
        Due.is("coins stay", x.now(6), 0);
    }

    private static void heldBeyond() {
        Doc.promise(5, "BEYOND.");
        range("held", BasinVotes::new, BasinVotes::held, 0, 63);
    }

    private static void nowDays() {
        Doc.promise(6, "What 0 DAY, 1 its QUESTION, 2 HELD, 3 BRIBE,");
        BasinVotes x = new BasinVotes();
        x.held(5);
        x.bribe(1);
        x.days(5);
        Due.is("day", x.now(0), 5);
        Due.is("question", x.now(1), 5);
        x.days(1);
        Due.is("day", x.now(0), 6);
        Due.is("question", x.now(1), 0);
        Due.is("held", x.now(2), 5);
        Due.is("bribe", x.now(3), 1);
    }

    private static void nowThoseForTheLeft() {
        Doc.promise(6, "4 those that aren't AWAY and whose SIDE in this DAY's QUESTION is the left, as all is, as a set,");
        Due.is("nobody", new BasinVotes().now(4), 0);
        BasinVotes x = with(BOY, BOY, BOY, BOY, BOY, BOY, BOY, BOY);
        Due.is("all eight", x.now(4), 255);
        x.set(7, AWAY, 1);
        Due.is("but one that is away", x.now(4), 127);
        x.lies(0, LEFT, 1);
        Due.is("none, as less lies right", x.now(4), 0);
        x.lies(0, LEFT, 0);
        x.lies(1, LEFT, 1);
        Due.is("another question tells nothing", x.now(4), 127);
        x.days(1);
        Due.is("none, on its day", x.now(4), 0);
        BasinVotes y = with(THROWER, LADY, BOY, STRANGER, AGENT, DIVER);
        y.set(0, LEANS, 2);
        y.set(1, LEANS, 1);
        Due.is("lady, boy, stranger, agent and diver", y.now(4), 2 + 4 + 8 + 16 + 32);
        y.bribe(1);
        y.set(1, PENCE, 0);
        Due.is("with nothing to throw there is a side, too", y.now(4), 2 + 4 + 8 + 32);
    }

    private static void nowAllTogether() {
        Doc.promise(6, "5 PENCE of all together, 6 all that lies in the basin.");
        BasinVotes x = eight();
        Due.is("pence at first", x.now(5), 160);
        for (int who = 0; who < 8; who++) {
            x.set(who, PENCE, 9999);
        }
        Due.is("pence at most", x.now(5), 79992);
        x.set(7, AWAY, 1);
        Due.is("those away have pence, too", x.now(5), 79992);
        for (int q = 0; q < 6; q++) {
            x.lies(q, LEFT, 9999);
            x.lies(q, RIGHT, 9999);
        }
        Due.is("coins at most", x.now(6), 119988);
        x.lies(5, RIGHT, 0);
        Due.is("coins", x.now(6), 109989);
    }

    private static void nowBeyond() {
        Doc.promise(6, "BEYOND.");
        range("now", Towns::eight, BasinVotes::now, 0, 6);
    }
}
