import java.util.function.Supplier;

/** Promises 7 to 12: people. */
final class PeopleEdges extends Towns {
    private PeopleEdges() {
    }

    static void all() {
        oneMore();
        personBeyond();
        personFull();
        ofOne();
        ofBeyond();
        actsOfOne();
        actsBeyond();
        setWhatItWas();
        setBeyond();
        turnWhatItWas();
        turnBeyond();
        asPence();
        asBeyond();
        asKind();
    }

    /** The number of one is looked at wherever one is named: with nobody there, with two, and with all eight. */
    private static void persons(String call, Act act) {
        Supplier<BasinVotes> two = () -> with(THROWER, LADY);
        range(call + " of nobody", BasinVotes::new, act, 0, -1);
        range(call + " of two", two, act, 0, 1);
        range(call + " of eight", Towns::eight, act, 0, 7);
    }

    private static void oneMore() {
        Doc.promise(7, "One more: the number.");
        BasinVotes x = new BasinVotes();
        for (int who = 0; who < 8; who++) {
            Due.is("one more", x.person(who % 6), who);
            Due.is("its kind", x.of(who, 0), who % 6);
            Due.is("people", x.count(0), who + 1);
        }
    }

    private static void personBeyond() {
        Doc.promise(7, "BEYOND: kind.");
        range("person", BasinVotes::new, BasinVotes::person, 0, 5);
    }

    private static void personFull() {
        Doc.promise(7, "FULL.");
        BasinVotes x = with(0, 0, 0, 0, 0, 0, 0);
        Due.is("an eighth", x.person(DIVER), 7);
        Due.is("a ninth", x.person(DIVER), FULL);
        for (int kind : ALL_KINDS) {
            Due.is("a ninth of kind " + kind, x.person(kind), FULL);
        }
        Due.is("people", x.count(0), 8);
        Due.is("the last one is as it was", x.of(7, 0), DIVER);
    }

    private static void ofOne() {
        Doc.promise(8, "Of one: what 0 KIND, 1 LEANS, 2 PENCE, 3 AWAY, 4 THROWS now, 5 EARNS.");
        BasinVotes x = eight();
        x.set(7, LEANS, 63);
        x.set(7, PENCE, 9999);
        x.set(7, AWAY, 1);
        int[] want = {LADY, 63, 9999, 1, 500, 3};
        for (int what = 0; what <= 5; what++) {
            Due.is("what " + what + " of the eighth", x.of(7, what), want[what]);
        }
        int[] first = {THROWER, 0, 20, 0, 1, 2};
        for (int what = 0; what <= 5; what++) {
            Due.is("what " + what + " of the first", x.of(0, what), first[what]);
        }
        // Now, not when it will have earned: 17 and 3 would make 2.
        Due.is("throws now", one(LADY, 17).of(0, 4), 1);
        Due.is("throws now, with none", one(THROWER, 0).of(0, 4), 0);
    }

    private static void ofBeyond() {
        Doc.promise(8, "BEYOND.");
        for (int what = 0; what <= 5; what++) {
            int w = what;
            persons("of, what " + w, (x, v) -> x.of(v, w));
        }
        range("of, what", Towns::eight, (x, v) -> x.of(7, v), 0, 5);
    }

    private static void actsOfOne() {
        Doc.promise(9, "What 0 SIDE, 1 DIVES (no more than lie there) of one in a QUESTION, as all is.");
        for (int q = 0; q < 6; q++) {
            BasinVotes x = with(DIVER);
            x.lies(q, LEFT, 25);
            Due.is("side in " + q, x.acts(0, q, 0), RIGHT);
            Due.is("dives in " + q, x.acts(0, q, 1), 4);
            Due.is("side in another", x.acts(0, (q + 1) % 6, 0), LEFT);
            Due.is("dives where none lies", x.acts(0, (q + 1) % 6, 1), 0);
            x.lies(q, LEFT, 1);
            Due.is("dives where one lies", x.acts(0, q, 1), 1);
            x.set(0, AWAY, 1);
            Due.is("side of one away", x.acts(0, q, 0), RIGHT);
            Due.is("dives of one away", x.acts(0, q, 1), 1);
            x.set(0, PENCE, 9999);
            Due.is("dives of one with a full purse", x.acts(0, q, 1), 1);
        }
    }

    private static void actsBeyond() {
        Doc.promise(9, "BEYOND.");
        persons("acts, side", (x, v) -> x.acts(v, 0, 0));
        persons("acts, dives", (x, v) -> x.acts(v, 0, 1));
        range("acts, question", Towns::eight, (x, v) -> x.acts(0, v, 0), 0, 5);
        range("acts, question, dives", Towns::eight, (x, v) -> x.acts(5, v, 1), 0, 5);
        range("acts, what", Towns::eight, (x, v) -> x.acts(7, 5, v), 0, 1);
    }

    private static void setWhatItWas() {
        Doc.promise(10, "LEANS (what 1; 0 to 63), PENCE (2), AWAY (3) of one becomes v: what it was.");
        for (int who = 0; who < 8; who += 7) {
            BasinVotes x = eight();
            Due.is("leans", x.set(who, 1, 63), 0);
            Due.is("leans", x.set(who, 1, 0), 63);
            Due.is("leans", x.set(who, 1, 21), 0);
            Due.is("pence", x.set(who, 2, 9999), 20);
            Due.is("pence", x.set(who, 2, 0), 9999);
            Due.is("pence", x.set(who, 2, 33), 0);
            Due.is("away", x.set(who, 3, 1), 0);
            Due.is("away", x.set(who, 3, 0), 1);
            Due.is("away", x.set(who, 3, 1), 0);
            Due.is("leans", x.of(who, 1), 21);
            Due.is("pence", x.of(who, 2), 33);
            Due.is("away", x.of(who, 3), 1);
            Due.is("kind", x.of(who, 0), who == 0 ? THROWER : LADY);
            Due.is("those of others", x.of(7 - who, 1) + x.of(7 - who, 2) + x.of(7 - who, 3), 20);
        }
    }

    private static void setBeyond() {
        Doc.promise(10, "BEYOND.");
        persons("set, leans", (x, v) -> x.set(v, 1, 1));
        persons("set, pence", (x, v) -> x.set(v, 2, 1));
        persons("set, away", (x, v) -> x.set(v, 3, 1));
        range("set, what", Towns::eight, (x, v) -> x.set(0, v, 1), 1, 3);
        range("set, leans", Towns::eight, (x, v) -> x.set(0, 1, v), 0, 63);
        range("set, pence", Towns::eight, (x, v) -> x.set(0, 2, v), 0, 9999);
        range("set, away", Towns::eight, (x, v) -> x.set(0, 3, v), 0, 1);
    }

    private static void turnWhatItWas() {
        Doc.promise(11, "One becomes one of another KIND: what it was.");
        for (int kind : ALL_KINDS) {
            for (int other : ALL_KINDS) {
                BasinVotes x = with(kind, kind);
                x.set(1, LEANS, 9);
                x.set(1, PENCE, 77);
                x.set(1, AWAY, 1);
                Due.is("turn of " + kind + " to " + other, x.turn(1, other), kind);
                Due.is("kind", x.of(1, 0), other);
                Due.is("leans", x.of(1, LEANS), 9);
                Due.is("pence", x.of(1, PENCE), 77);
                Due.is("away", x.of(1, AWAY), 1);
                Due.is("the other one", x.of(0, 0), kind);
                Due.is("no finding", x.status(-1), 0);
            }
        }
    }

    private static void turnBeyond() {
        Doc.promise(11, "BEYOND.");
        persons("turn", (x, v) -> x.turn(v, BOY));
        range("turn, kind", Towns::eight, (x, v) -> x.turn(7, v), 0, 5);
    }

    private static void asPence() {
        Doc.promise(12, "One as one of a kind: PENCE.");
        BasinVotes x = with(AGENT);
        Due.is("agent as agent", x.as(0, AGENT), 20);
        Due.is("agent as lady", x.as(0, LADY), 20);
        x.set(0, PENCE, 9999);
        Due.is("agent as thrower", x.as(0, THROWER), 9999);
        x.set(0, PENCE, 0);
        Due.is("agent as thrower", x.as(0, THROWER), 0);
        x.turn(0, DIVER);
        Due.is("as what it has become", x.as(0, BOY), 0);
    }

    private static void asBeyond() {
        Doc.promise(12, "BEYOND: no such one, kind.");
        persons("as", (x, v) -> x.as(v, THROWER));
        range("as, kind", () -> with(THROWER), (x, v) -> x.as(0, v), 0, 5);
    }

    private static void asKind() {
        Doc.promise(12, "KIND: it isn't of that kind, nor of one under it.");
        Due.is("one of the kind above is none of it", with(THROWER).as(0, LADY), KIND);
        Due.is("lady as agent", with(LADY).as(0, AGENT), KIND);
        Due.is("boy as diver", with(BOY).as(0, DIVER), KIND);
        Due.is("lady as boy", with(LADY).as(0, BOY), KIND);
        Due.is("agent as boy", with(AGENT).as(0, BOY), KIND);
        Due.is("agent as diver", with(AGENT).as(0, DIVER), KIND);
        Due.is("agent as stranger", with(AGENT).as(0, STRANGER), KIND);
        Due.is("diver as lady", with(DIVER).as(0, LADY), KIND);
        Due.is("stranger as boy", with(STRANGER).as(0, BOY), KIND);
        BasinVotes x = with(AGENT);
        x.turn(0, THROWER);
        Due.is("as what it was", x.as(0, AGENT), KIND);
    }
}
