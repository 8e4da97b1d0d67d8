import java.util.ArrayList;
import java.util.List;
import java.util.function.Supplier;
import java.util.function.ToLongFunction;

/** An act that is refused changes nothing but status(); one that only looks changes nothing at all. */
final class RefusedEdges extends Towns {
    private static final int[] FAR = {-1, Integer.MIN_VALUE, Integer.MAX_VALUE};

    private RefusedEdges() {
    }

    static void all() {
        Doc.terms("one that answers a finding changes nothing but status().");
        beyondOfTheBasin();
        beyondOfThePeople();
        beyondOfTheDays();
        beyondOfTheBest();
        beyondOfTheText();
        beyondOfTheSheets();
        beyondOfCopy();
        beyondOfTheImages();
        full();
        kind();
        none();
        state();
        missing();
        size();
        Doc.terms("AHEAD: n DAYS go on with all as it is; nothing changes.");
        lookingChangesNothing();
    }

    /** A town with something of everything: people, coins, days, an image of another state, sheets and a tape. */
    private static BasinVotes ample() {
        BasinVotes x = with(THROWER, LADY, BOY, STRANGER, AGENT, DIVER, LADY);
        x.set(0, LEANS, 21);
        x.set(1, PENCE, 300);
        x.set(6, AWAY, 1);
        x.lies(1, LEFT, 40);
        x.bribe(1);
        x.days(8);
        x.image();
        x.lies(2, RIGHT, 77);
        x.set(1, LEANS, 42);
        x.turn(3, BOY);
        x.held(37);
        x.bribe(0);
        x.days(1);
        x.sheet(0, 8, 3);
        x.sheet(1, 16, 2);
        x.sheet(2, 64, 40);
        for (int i = 0; i < 3; i++) {
            x.write(0, i, 10 + i);
            x.write(2, i, 1000 + i);
        }
        x.write(1, 1, 555);
        x.write(2, 39, -7);
        feedAll(x, "away 0;boy");
        return x;
    }

    /** All that can be seen of it, in fewer calls than an object has. */
    private static List<Long> seen(BasinVotes x) {
        List<Long> all = new ArrayList<>();
        seenOfSectionOne(x, all);
        for (int s = 0; s < 4; s++) {
            for (int i = 0; i < 4; i++) {
                all.add(x.write(s, i, 99));
            }
            all.add(x.write(s, 39, 99));
        }
        // What the tape tells, and then what the image keeps.
        all.add((long) x.town());
        seenOfSectionOne(x, all);
        all.add((long) x.undo());
        seenOfSectionOne(x, all);
        all.add((long) x.tear());
        return all;
    }

    private static void seenOfSectionOne(BasinVotes x, List<Long> all) {
        for (int what = 0; what <= 6; what++) {
            all.add((long) x.now(what));
        }
        for (int what = 0; what <= 3; what++) {
            all.add((long) x.count(what));
        }
        for (int q = 0; q < 6; q++) {
            all.add((long) x.basin(q, LEFT));
            all.add((long) x.basin(q, RIGHT));
        }
        for (int who = 0; who < 8; who++) {
            for (int what = 0; what <= 3; what++) {
                all.add((long) x.of(who, what));
            }
        }
    }

    private static void refused(String call, long finding, Supplier<BasinVotes> town, ToLongFunction<BasinVotes> act) {
        BasinVotes x = town.get();
        int[] before = new int[8];
        for (int which = -1; which <= 6; which++) {
            before[which + 1] = x.status(which);
        }
        Due.is(call, act.applyAsLong(x), finding);
        for (int which = -1; which <= 6; which++) {
            boolean counts = which == -1 || which == -1000000001 - finding;
            Due.is("status(" + which + ") behind " + call, x.status(which), before[which + 1] + (counts ? 1 : 0));
        }
        Due.holds("nothing changes with " + call, seen(x).equals(seen(town.get())));
    }

    private static void beyond(String call, ToLongFunction<BasinVotes> act) {
        refused(call, BEYOND, RefusedEdges::ample, act);
    }

    private static void beyondOfTheBasin() {
        for (int far : FAR) {
            beyond("lies, question", x -> x.lies(far, 0, 5));
            beyond("lies, side", x -> x.lies(0, far, 5));
            beyond("lies, v", x -> x.lies(0, 0, far));
            beyond("basin, question", x -> x.basin(far, 0));
            beyond("basin, what", x -> x.basin(0, far));
            beyond("bribe", x -> x.bribe(far));
            beyond("held", x -> x.held(far));
            beyond("now", x -> x.now(far));
        }
        beyond("lies, question 6", x -> x.lies(6, 0, 5));
        beyond("lies, side 2", x -> x.lies(0, 2, 5));
        beyond("lies, v 10000", x -> x.lies(0, 0, 10000));
        beyond("bribe 2", x -> x.bribe(2));
        beyond("held 64", x -> x.held(64));
    }

    private static void beyondOfThePeople() {
        for (int far : FAR) {
            beyond("person", x -> x.person(far));
            beyond("of, person", x -> x.of(far, 0));
            beyond("of, what", x -> x.of(0, far));
            beyond("acts, person", x -> x.acts(far, 0, 0));
            beyond("acts, question", x -> x.acts(0, far, 0));
            beyond("acts, what", x -> x.acts(0, 0, far));
            beyond("set, person", x -> x.set(far, 1, 1));
            beyond("set, what", x -> x.set(0, far, 1));
            beyond("set, leans", x -> x.set(0, LEANS, far));
            beyond("set, pence", x -> x.set(0, PENCE, far));
            beyond("set, away", x -> x.set(0, AWAY, far));
            beyond("turn, person", x -> x.turn(far, BOY));
            beyond("turn, kind", x -> x.turn(0, far));
            beyond("as, person", x -> x.as(far, 0));
            beyond("as, kind", x -> x.as(0, far));
        }
        beyond("person 6", x -> x.person(6));
        beyond("set, person 7", x -> x.set(7, PENCE, 1));
        beyond("set, what 0", x -> x.set(0, 0, 1));
        beyond("set, what 4", x -> x.set(0, 4, 1));
        beyond("set, leans 64", x -> x.set(0, LEANS, 64));
        beyond("set, pence 10000", x -> x.set(0, PENCE, 10000));
        beyond("set, away 2", x -> x.set(0, AWAY, 2));
        beyond("turn, person 7", x -> x.turn(7, BOY));
        beyond("turn, kind 6", x -> x.turn(0, 6));
    }

    private static void beyondOfTheDays() {
        for (int far : FAR) {
            beyond("days", x -> x.days(far));
            beyond("on, person", x -> x.on(far, 5));
            beyond("on, n", x -> x.on(0, far));
            beyond("then, question", x -> x.then(far, 5, 0));
            beyond("then, n", x -> x.then(0, far, 0));
            beyond("then, what", x -> x.then(0, 5, far));
            beyond("flips", x -> x.flips(far));
            beyond("rich, person", x -> x.rich(far, 5));
            beyond("rich, v", x -> x.rich(0, far));
        }
        beyond("days 0", x -> x.days(0));
        beyond("days 101", x -> x.days(101));
    }

    private static void beyondOfTheBest() {
        for (int far : FAR) {
            beyond("kind, person", x -> x.kind(far, 5));
            beyond("kind, n", x -> x.kind(0, far));
            beyond("lean, person", x -> x.lean(far, 5));
            beyond("lean, n", x -> x.lean(0, far));
            beyond("buys, person", x -> x.buys(far, 0, 5));
            beyond("buys, question", x -> x.buys(0, far, 5));
            beyond("buys, n", x -> x.buys(0, 0, far));
            beyond("swing", x -> x.swing(far));
            beyond("pays", x -> x.pays(far));
            beyond("richest", x -> x.richest(far));
        }
    }

    private static void beyondOfTheText() {
        for (int far : FAR) {
            beyond("feed", x -> x.feed(' ', far));
        }
        beyond("feed 0", x -> x.feed(' ', 0));
        beyond("feed 5", x -> x.feed(' ', 5));
    }

    private static void beyondOfTheSheets() {
        for (int far : FAR) {
            beyond("sheet", x -> x.sheet(far, 8, 1));
            beyond("sheet, bits", x -> x.sheet(0, far, 1));
            beyond("write, sheet", x -> x.write(far, 0, 1));
            beyond("write, number", x -> x.write(0, far, 1));
            beyond("lays", x -> x.lays(far));
            beyond("book, sheet", x -> x.book(far, 0));
            beyond("book, person", x -> x.book(0, far));
            beyond("read, sheet", x -> x.read(far, 0, 1));
            beyond("read, person", x -> x.read(0, far, 1));
            beyond("read, other", x -> x.read(0, 0, far));
        }
        beyond("sheet 0 of 41", x -> x.sheet(0, 8, 41));
        beyond("sheet 0 of 41 with bits 0", x -> x.sheet(0, 0, 41));
        beyond("sheet 3 of 41", x -> x.sheet(3, 8, 41));
        beyond("sheet of 32 bits", x -> x.sheet(0, 32, 1));
        beyond("write, number 3 of 3", x -> x.write(0, 3, 1));
        beyond("book, person 7", x -> x.book(0, 7));
        beyond("read, one and the same", x -> x.read(0, 1, 1));
    }

    private static void beyondOfCopy() {
        for (int far : FAR) {
            beyond("copy, sheet", x -> x.copy(far, 0, 0, 0, 1));
            beyond("copy, to sheet", x -> x.copy(0, 0, far, 0, 1));
            beyond("copy, from", x -> x.copy(0, far, 0, 0, 1));
            beyond("copy, to", x -> x.copy(0, 0, 0, far, 1));
            beyond("copy, n", x -> x.copy(0, 0, 0, 1, far));
        }
        beyond("copy, from 2, two of 3", x -> x.copy(0, 2, 0, 0, 2));
        beyond("copy, to 2, two of 3", x -> x.copy(0, 0, 0, 2, 2));
    }

    private static void beyondOfTheImages() {
        for (int far : FAR) {
            beyond("count", x -> x.count(far));
        }
        beyond("status 7", x -> x.status(7));
        beyond("status -2", x -> x.status(-2));
    }

    private static BasinVotes ampleWithEight() {
        BasinVotes x = ample();
        x.person(BOY);
        return x;
    }

    private static BasinVotes ampleWithTapeOf118() {
        BasinVotes x = ample();
        feedAll(x, " ".repeat(108));
        return x;
    }

    private static void full() {
        refused("person, a ninth", FULL, RefusedEdges::ampleWithEight, x -> x.person(THROWER));
        refused("feed, 3 behind 118", FULL, RefusedEdges::ampleWithTapeOf118, x -> x.feed(0x3B3B3B, 3));
        refused("feed, 4 behind 118", FULL, RefusedEdges::ampleWithTapeOf118, x -> x.feed(0x20202020, 4));
    }

    private static void kind() {
        refused("as", KIND, RefusedEdges::ample, x -> x.as(0, LADY));
        refused("copy of 8 bits to 16", KIND, RefusedEdges::ample, x -> x.copy(0, 0, 1, 0, 1));
        refused("copy of 64 bits to 8", KIND, RefusedEdges::ample, x -> x.copy(2, 0, 0, 0, 1));
    }

    private static BasinVotes ampleButAllAway() {
        BasinVotes x = ample();
        for (int who = 0; who < 7; who++) {
            x.set(who, AWAY, 1);
            x.set(who, PENCE, 20);
        }
        for (int q = 0; q < 6; q++) {
            x.lies(q, LEFT, 0);
            x.lies(q, RIGHT, 0);
        }
        return x;
    }

    private static BasinVotes ampleWithoutImage() {
        BasinVotes x = ample();
        x.tear();
        return x;
    }

    private static BasinVotes nobody() {
        BasinVotes x = new BasinVotes();
        x.lies(3, RIGHT, 9);
        x.image();
        x.days(4);
        feedAll(x, "boy");
        return x;
    }

    private static void none() {
        refused("flips", NONE, RefusedEdges::ampleButAllAway, x -> x.flips(0));
        refused("rich", NONE, RefusedEdges::ampleButAllAway, x -> x.rich(0, 21));
        refused("buys", NONE, RefusedEdges::ampleButAllAway, x -> x.buys(1, 0, 60));
        refused("swing", NONE, RefusedEdges::ampleButAllAway, x -> x.swing(60));
        refused("richest", NONE, RefusedEdges::nobody, x -> x.richest(9));
        refused("undo", NONE, RefusedEdges::ampleWithoutImage, BasinVotes::undo);
    }

    private static void state() {
        refused("days", STATE, Towns::late, x -> x.days(100));
    }

    private static void missing() {
        refused("write", MISSING, RefusedEdges::ample, x -> x.write(3, 0, 5));
        refused("copy from one that is missing", MISSING, RefusedEdges::ample, x -> x.copy(3, 0, 0, 0, 0));
        refused("copy to one that is missing", MISSING, RefusedEdges::ample, x -> x.copy(0, 0, 3, 0, 0));
        refused("lays", MISSING, RefusedEdges::ample, x -> x.lays(3));
        refused("book", MISSING, RefusedEdges::ample, x -> x.book(3, 0));
        refused("read", MISSING, RefusedEdges::ample, x -> x.read(3, 0, 1));
    }

    private static void size() {
        refused("sheet 0", SIZE, RefusedEdges::ample, x -> x.sheet(0, 64, -1));
        refused("sheet 0 with bits 0", SIZE, RefusedEdges::ample, x -> x.sheet(0, 0, -1));
        refused("sheet 3", SIZE, RefusedEdges::ample, x -> x.sheet(3, 8, Integer.MIN_VALUE));
    }

    private static void looks(String call, ToLongFunction<BasinVotes> act) {
        BasinVotes x = ample();
        long answer = act.applyAsLong(x);
        Due.holds(call + " is answered, not with " + answer, answer > -1000000000);
        Due.is("status behind " + call, x.status(-1), 0);
        Due.holds("nothing changes with " + call, seen(x).equals(seen(ample())));
        x = ample();
        act.applyAsLong(x);
        Due.is(call + " once more", act.applyAsLong(x), answer);
    }

    private static void lookingChangesNothing() {
        looks("on", x -> x.on(1, 200));
        looks("then", x -> x.then(1, 200, 0));
        looks("flips", x -> x.flips(2));
        looks("rich", x -> x.rich(0, 30));
        looks("kind", x -> x.kind(0, 60));
        looks("lean", x -> x.lean(1, 40));
        looks("buys", x -> x.buys(1, 2, 60));
        looks("swing", x -> x.swing(60));
        looks("pays", x -> x.pays(60));
        looks("richest", x -> x.richest(200));
        looks("read", x -> x.read(1, 0, 1));
        looks("basin", x -> x.basin(1, 0));
        looks("now", x -> x.now(4));
        looks("of", x -> x.of(1, 4));
        looks("acts", x -> x.acts(5, 2, 1));
        looks("as", x -> x.as(4, LADY));
        looks("count", x -> x.count(1));
        looks("status", x -> x.status(0));
    }
}
