/** Promises 33 to 37: images, counts and findings. */
final class ImageEdges extends Towns {
    private ImageEdges() {
    }

    static void all() {
        imageOfAll();
        imageWithoutTheRest();
        undoTheLatest();
        undoStays();
        undoForgetsNumbers();
        undoNone();
        tear();
        count();
        countBeyond();
        statusOfEach();
        statusTakesNoneBack();
        statusOfManyCalls();
        statusBeyond();
    }

    private static void imageOfAll() {
        Doc.promise(33, "All that section 1 tells (THE TAPE not) is kept: 1.");
        BasinVotes x = with(LADY, AGENT, BOY, BOY, BOY, BOY, BOY);
        x.set(0, LEANS, 63);
        x.set(1, PENCE, 9999);
        x.set(6, AWAY, 1);
        x.lies(5, LEFT, 9999);
        x.lies(5, RIGHT, 7);
        x.lies(0, RIGHT, 3);
        x.held(42);
        x.bribe(1);
        Due.is("image", x.image(), 1);
        Due.is("once more", x.image(), 1);
        x.days(4);
        x.person(DIVER);
        x.turn(0, DIVER);
        x.set(0, LEANS, 0);
        x.set(1, PENCE, 0);
        x.set(6, AWAY, 0);
        x.lies(5, LEFT, 0);
        x.lies(5, RIGHT, 0);
        x.lies(0, RIGHT, 0);
        x.held(21);
        x.bribe(0);
        Due.is("undo", x.undo(), 7);
        Due.is("day", x.now(0), 0);
        Due.is("held", x.now(2), 42);
        Due.is("bribe", x.now(3), 1);
        Due.is("people", x.count(0), 7);
        Due.is("kind", x.of(0, 0), LADY);
        Due.is("leans", x.of(0, LEANS), 63);
        Due.is("pence", x.of(1, PENCE), 9999);
        Due.is("away", x.of(6, AWAY), 1);
        Due.is("left", x.basin(5, LEFT), 9999);
        Due.is("right", x.basin(5, RIGHT), 7);
        Due.is("right of 0", x.basin(0, RIGHT), 3);
    }

    private static void imageWithoutTheRest() {
        BasinVotes x = new BasinVotes();
        feedAll(x, "boy");
        x.sheet(0, 8, 1);
        x.write(0, 0, 5);
        x.image();
        feedAll(x, ";lady");
        x.write(0, 0, 6);
        x.sheet(1, 8, 2);
        Due.is("undo", x.undo(), 0);
        Due.is("the tape is as it is", x.count(1), 8);
        Due.is("the sheet is as it is", x.write(0, 0, 0), 6);
        Due.is("the other sheet is as it is", x.write(1, 1, 0), 0);
        Due.is("the text is read", x.town(), 2);
        Due.is("undo", x.undo(), 0);
        Due.is("the tape is as it is", x.count(1), 0);
    }

    private static void undoTheLatest() {
        Doc.promise(34, "It becomes what was kept latest (which stays): how many PEOPLE.");
        BasinVotes x = new BasinVotes();
        x.image();
        x.person(BOY);
        Due.is("nobody", x.undo(), 0);
        Due.is("people", x.count(0), 0);
        x.person(LADY);
        x.image();
        x.person(BOY);
        x.image();
        x.person(BOY);
        Due.is("the latest of three", x.undo(), 2);
        BasinVotes y = eight();
        y.image();
        Due.is("eight", y.undo(), 8);
        Due.is("a ninth", y.person(BOY), FULL);
    }

    private static void undoStays() {
        BasinVotes x = with(LADY);
        x.image();
        for (int i = 0; i < 3; i++) {
            // What is done behind an undo does not reach what is kept.
            x.set(0, PENCE, 99);
            x.lies(3, LEFT, 99);
            x.held(63);
            x.days(2);
            x.person(BOY);
            Due.is("undo", x.undo(), 1);
            Due.is("pence", x.of(0, PENCE), 20);
            Due.is("left", x.basin(3, LEFT), 0);
            Due.is("held", x.now(2), 0);
            Due.is("day", x.now(0), 0);
        }
        Due.is("twice in a row", x.undo(), 1);
        Due.is("it is still kept", x.tear(), 1);
    }

    private static void undoForgetsNumbers() {
        BasinVotes x = with(LADY);
        x.image();
        x.person(BOY);
        x.set(1, LEANS, 63);
        x.set(1, PENCE, 99);
        x.set(1, AWAY, 1);
        x.undo();
        Due.is("one that came later", x.of(1, 0), BEYOND);
        Due.is("one more", x.person(AGENT), 1);
        Due.is("kind", x.of(1, 0), AGENT);
        Due.is("leans", x.of(1, LEANS), 0);
        Due.is("pence", x.of(1, PENCE), 20);
        Due.is("away", x.of(1, AWAY), 0);
    }

    private static void undoNone() {
        Doc.promise(34, "NONE: nothing is kept.");
        BasinVotes x = with(LADY);
        Due.is("at first", x.undo(), NONE);
        x.image();
        Due.is("kept", x.undo(), 1);
        x.tear();
        Due.is("torn", x.undo(), NONE);
        Due.is("people", x.count(0), 1);
        x.image();
        Due.is("kept again", x.undo(), 1);
    }

    private static void tear() {
        Doc.promise(35, "Nothing is kept: 1 if something was, else 0.");
        BasinVotes x = with(LADY);
        Due.is("at first", x.tear(), 0);
        x.image();
        x.image();
        Due.is("kept twice", x.tear(), 1);
        Due.is("torn", x.tear(), 0);
        Due.is("undo", x.undo(), NONE);
        Due.is("people", x.count(0), 1);
        Due.is("findings of tear", x.status(-1), 1);
    }

    private static void count() {
        Doc.promise(36, "0 PEOPLE, 1 bytes of THE TAPE, 2 LEFT, 3 RIGHT of all QUESTIONS together.");
        BasinVotes x = eight();
        feedAll(x, " ".repeat(120));
        Due.is("people", x.count(0), 8);
        Due.is("tape", x.count(1), 120);
        Due.is("left", x.count(2), 0);
        Due.is("right", x.count(3), 0);
        for (int q = 0; q < 6; q++) {
            x.lies(q, LEFT, 9999);
            Due.is("left", x.count(2), 9999 * (q + 1));
            Due.is("right", x.count(3), q);
            x.lies(q, RIGHT, 1);
        }
        Due.is("left", x.count(2), 59994);
        Due.is("right", x.count(3), 6);
    }

    private static void countBeyond() {
        Doc.promise(36, "BEYOND: another what.");
        range("count", Towns::eight, BasinVotes::count, 0, 3);
    }

    private static void statusOfEach() {
        Doc.promise(37, "How many acts answered a finding ever (undo() takes none back): which -1: all, 0 to 6: BEYOND to SIZE.");
        // As many of each as its number and one: STATE at the end of all days.
        BasinVotes x = late();
        for (int i = 0; i < 7; i++) {
            x.person(THROWER);
        }
        for (int i = 0; i < 7; i++) {
            oneOf(x, i, i + 1);
        }
        for (int which = 0; which <= 6; which++) {
            Due.is("status " + which, x.status(which), which + 1);
        }
        Due.is("all", x.status(-1), 28);
    }

    private static void oneOf(BasinVotes x, int which, int times) {
        for (int i = 0; i < times; i++) {
            long answer = switch (which) {
                case 0 -> x.now(7);
                case 1 -> x.person(THROWER);
                case 2 -> x.as(0, LADY);
                case 3 -> x.undo();
                case 4 -> x.days(100);
                case 5 -> x.write(0, 0, 0);
                default -> x.sheet(0, 8, -1);
            };
            Due.is("finding " + which, answer, -1000000001 - which);
        }
    }

    private static void statusTakesNoneBack() {
        BasinVotes x = new BasinVotes();
        x.now(7);
        x.image();
        x.now(7);
        x.lays(0);
        x.undo();
        Due.is("beyond", x.status(0), 2);
        Due.is("missing", x.status(5), 1);
        Due.is("all", x.status(-1), 3);
        // Neither a fault in a text nor a number that looks like a finding is one.
        told(x, "#");
        x.sheet(0, 64, 1);
        x.write(0, 0, NONE);
        x.write(0, 0, NONE);
        Due.is("all", x.status(-1), 3);
        x.tear();
        x.wipe();
        x.sheet(0, 0, 0);
        Due.is("all", x.status(-1), 3);
    }

    private static void statusOfManyCalls() {
        BasinVotes x = new BasinVotes();
        for (int i = 0; i < 510; i++) {
            x.bribe(2);
        }
        Due.is("the 511th call: beyond", x.status(0), 510);
        Due.is("the 512th call: all", x.status(-1), 510);
    }

    private static void statusBeyond() {
        Doc.promise(37, "BEYOND (counted from then on): another one.");
        range("status", BasinVotes::new, BasinVotes::status, -1, 6);
        BasinVotes x = new BasinVotes();
        Due.is("7", x.status(7), BEYOND);
        Due.is("counted", x.status(0), 1);
        Due.is("-2", x.status(-2), BEYOND);
        Due.is("counted", x.status(0), 2);
        Due.is("counted", x.status(-1), 2);
        Due.is("asking is no finding", x.status(-1), 2);
    }
}
