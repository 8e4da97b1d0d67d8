import java.util.Arrays;
import java.util.function.Supplier;

/** Promises 27 to 32: sheets. */
final class SheetEdges extends Towns {
    private static final int[] WIDTHS = {8, 16, 64};

    private SheetEdges() {
    }

    static void all() {
        sheetsAtFirstAndAtMost();
        sheetOfNoughts();
        sheetThatIsMissing();
        sheetBeyond();
        sheetSize();
        sheetTooLong();
        writeLowestBits();
        writeNoSuchSheet();
        writeMissing();
        writeNoSuchNumber();
        copyAsTheyWere();
        copyNone();
        copyNoSuchSheet();
        copyMissing();
        copyKind();
        copyNotSoMany();
        laysPence();
        laysLeftOut();
        laysNoSuchSheet();
        laysMissing();
        bookAhead();
        bookNoSuchSheet();
        bookMissing();
        bookPerson();
        readPairs();
        readOfNoNumbers();
        readTheLastNumber();
        readNoSuchSheet();
        readMissing();
        readPeople();
    }

    /** A town with one sheet 0 that has these numbers. */
    private static BasinVotes sheetOf(int bits, long... numbers) {
        BasinVotes x = new BasinVotes();
        put(x, 0, bits, numbers);
        return x;
    }

    private static void put(BasinVotes x, int s, int bits, long... numbers) {
        x.sheet(s, bits, numbers.length);
        for (int i = 0; i < numbers.length; i++) {
            x.write(s, i, numbers[i]);
        }
    }

    /** Its numbers are these, and no more. */
    private static void numbersAre(BasinVotes x, int s, long... want) {
        for (int i = 0; i < want.length; i++) {
            long got = x.write(s, i, 0);
            Due.is("number " + i + " of sheet " + s, got, want[i]);
            x.write(s, i, got);
        }
        Due.is("a number more of sheet " + s, x.write(s, want.length, 0), BEYOND);
    }

    private static void sheetsAtFirstAndAtMost() {
        Doc.terms("SHEETS 0 to 3 are rows of at most 40 numbers of 8, 16 or 64 bits, or MISSING (at first).");
        BasinVotes x = new BasinVotes();
        for (int s = 0; s < 4; s++) {
            Due.is("sheet " + s + " at first", x.write(s, 0, 0), MISSING);
            Due.is("41 numbers", x.sheet(s, 64, 41), BEYOND);
            Due.is("40 numbers", x.sheet(s, 64, 40), 40);
            Due.is("the last one", x.write(s, 39, s + 1), 0);
            Due.is("one behind it", x.write(s, 40, 0), BEYOND);
        }
        for (int s = 0; s < 4; s++) {
            Due.is("each has its own", x.write(s, 39, 0), s + 1);
        }
        Due.is("sheet 4", x.sheet(4, 8, 1), BEYOND);
        Due.is("sheet -1", x.sheet(-1, 8, 1), BEYOND);
    }

    private static void sheetOfNoughts() {
        Doc.promise(27, "A sheet has n numbers, all 0, of 8, 16 or 64 bits;");
        for (int bits : WIDTHS) {
            BasinVotes x = new BasinVotes();
            Due.is("none", x.sheet(3, bits, 0), 0);
            Due.is("number 0 of none", x.write(3, 0, 0), BEYOND);
            Due.is("one", x.sheet(3, bits, 1), 1);
            Due.is("number 1 of one", x.write(3, 1, 0), BEYOND);
            Due.is("40", x.sheet(3, bits, 40), 40);
            for (int i = 0; i < 40; i++) {
                Due.is("number " + i, x.write(3, i, 9), 0);
            }
            // Made anew it has nothing of the one before.
            Due.is("two", x.sheet(3, bits, 2), 2);
            numbersAre(x, 3, 0, 0);
            Due.is("40", x.sheet(3, bits, 40), 40);
            for (int i = 0; i < 40; i++) {
                Due.is("number " + i, x.write(3, i, 9), 0);
            }
            Due.is("no finding but those asked for", x.status(-1), 3);
        }
    }

    private static void sheetThatIsMissing() {
        Doc.promise(27, "bits 0: it is MISSING: n (0 if it is MISSING).");
        BasinVotes x = sheetOf(16, 5, 6);
        Due.is("40 with bits 0", x.sheet(0, 0, 40), 0);
        Due.is("missing", x.write(0, 0, 0), MISSING);
        Due.is("once more", x.sheet(0, 0, 1), 0);
        Due.is("none with bits 0", x.sheet(1, 0, 0), 0);
        Due.is("missing", x.write(1, 0, 0), MISSING);
        Due.is("two", x.sheet(0, 64, 2), 2);
        numbersAre(x, 0, 0, 0);
        // One with no numbers isn't missing.
        x.sheet(2, 8, 0);
        Due.is("lays of no numbers", x.lays(2), 0);
    }

    private static void sheetBeyond() {
        Doc.promise(27, "BEYOND: no such sheet, other bits.");
        range("sheet", BasinVotes::new, (x, v) -> x.sheet(v, 8, 1), 0, 3);
        range("sheet with bits 0", BasinVotes::new, (x, v) -> x.sheet(v, 0, 1), 0, 3);
        for (int bits = -70; bits <= 300; bits++) {
            boolean may = bits == 0 || bits == 8 || bits == 16 || bits == 64;
            Due.is("bits " + bits, new BasinVotes().sheet(0, bits, 1), may ? Integer.signum(bits) : BEYOND);
        }
        int[] others = {Integer.MIN_VALUE, Integer.MIN_VALUE + 8, Integer.MAX_VALUE, 65536, 65536 + 16};
        for (int bits : others) {
            Due.is("bits " + bits, new BasinVotes().sheet(0, bits, 1), BEYOND);
        }
    }

    private static void sheetSize() {
        Doc.promise(27, "SIZE: n is below 0 (also with bits 0).");
        int[] below = {-1, -2, -40, -256, Integer.MIN_VALUE};
        int[] widths = {0, 8, 16, 64};
        for (int n : below) {
            for (int bits : widths) {
                BasinVotes x = sheetOf(8, 7);
                Due.is(n + " of " + bits + " bits", x.sheet(0, bits, n), SIZE);
                numbersAre(x, 0, 7);
            }
        }
    }

    private static void sheetTooLong() {
        Doc.promise(27, "BEYOND: n is above 40 (also with bits 0).");
        int[] above = {41, 42, 256, 65536, Integer.MAX_VALUE};
        int[] widths = {0, 8, 16, 64};
        for (int n : above) {
            for (int bits : widths) {
                BasinVotes x = sheetOf(8, 7);
                Due.is(n + " of " + bits + " bits", x.sheet(0, bits, n), BEYOND);
                numbersAre(x, 0, 7);
            }
        }
    }

    private static void written(int bits, long v, long becomes) {
        BasinVotes x = new BasinVotes();
        x.sheet(2, bits, 40);
        Due.is("what it was", x.write(2, 39, v), 0);
        Due.is(v + " in " + bits + " bits", x.write(2, 39, 0), becomes);
        Due.is("no finding", x.status(-1), 0);
    }

    private static void writeLowestBits() {
        Doc.promise(28, "Number i of a sheet becomes v (its lowest bits): what it was.");
        written(8, 127, 127);
        written(8, 128, -128);
        written(8, 255, -1);
        written(8, 256, 0);
        written(8, 257, 1);
        written(8, -128, -128);
        written(8, -129, 127);
        written(8, 1L << 40, 0);
        written(16, 32767, 32767);
        written(16, 32768, -32768);
        written(16, 65535, -1);
        written(16, 65536, 0);
        written(16, -32769, 32767);
        written(16, Long.MAX_VALUE, -1);
        written(64, Long.MAX_VALUE, Long.MAX_VALUE);
        written(64, Long.MIN_VALUE, Long.MIN_VALUE);
        written(64, 1L << 32, 1L << 32);
        // A number may look like a finding; it is none.
        written(64, BEYOND, BEYOND);
        BasinVotes x = sheetOf(64, 1, 2, 3);
        Due.is("what it was", x.write(0, 1, 5), 2);
        numbersAre(x, 0, 1, 5, 3);
    }

    private static void writeNoSuchSheet() {
        Doc.promise(28, "BEYOND: no such sheet.");
        Supplier<BasinVotes> town = () -> {
            BasinVotes x = new BasinVotes();
            x.sheet(0, 8, 1);
            x.sheet(3, 8, 1);
            return x;
        };
        range("write, sheet", town, (x, v) -> x.write(v, 0, 1), 0, 3);
    }

    private static void writeMissing() {
        Doc.promise(28, "MISSING.");
        for (int s = 0; s < 4; s++) {
            BasinVotes x = new BasinVotes();
            Due.is("at first", x.write(s, 0, 1), MISSING);
            x.sheet(s, 8, 40);
            Due.is("made", x.write(s, 0, 1), 0);
            x.sheet(s, 0, 40);
            Due.is("gone", x.write(s, 0, 1), MISSING);
        }
    }

    private static void writeNoSuchNumber() {
        Doc.promise(28, "BEYOND: no such number.");
        for (int bits : WIDTHS) {
            range("write, number of 1", () -> sheetOf(bits, 5), (x, v) -> x.write(0, v, 1), 0, 0);
            range("write, number of 40", () -> sheetOf(bits, new long[40]), (x, v) -> x.write(0, v, 1), 0, 39);
            range("write, number of none", () -> sheetOf(bits), (x, v) -> x.write(0, v, 1), 0, -1);
        }
    }

    private static void copyAsTheyWere() {
        Doc.promise(29, "n numbers of a sheet from one on come to another one from one on (as they all were): n.");
        for (int bits : WIDTHS) {
            BasinVotes x = sheetOf(bits, 1, 2, 3, 4, 5);
            put(x, 3, bits, 6, 7, 8);
            Due.is("to the end", x.copy(0, 3, 3, 1, 2), 2);
            numbersAre(x, 3, 6, 4, 5);
            numbersAre(x, 0, 1, 2, 3, 4, 5);
            Due.is("all of it", x.copy(3, 0, 0, 0, 3), 3);
            numbersAre(x, 0, 6, 4, 5, 4, 5);
            // Onto itself, one up and one down: as they all were, none of them copied twice.
            put(x, 0, bits, 1, 2, 3, 4, 5);
            Due.is("one up", x.copy(0, 0, 0, 1, 4), 4);
            numbersAre(x, 0, 1, 1, 2, 3, 4);
            put(x, 0, bits, 1, 2, 3, 4, 5);
            Due.is("one down", x.copy(0, 1, 0, 0, 4), 4);
            numbersAre(x, 0, 2, 3, 4, 5, 5);
            Due.is("where they are", x.copy(0, 0, 0, 0, 5), 5);
            numbersAre(x, 0, 2, 3, 4, 5, 5);
        }
        BasinVotes y = new BasinVotes();
        put(y, 1, 8, new long[40]);
        y.write(1, 39, -3);
        y.sheet(2, 8, 40);
        Due.is("40", y.copy(1, 0, 2, 0, 40), 40);
        Due.is("the last of 40", y.write(2, 39, 0), -3);
    }

    private static void copyNone() {
        BasinVotes x = sheetOf(16, 1, 2);
        x.sheet(1, 16, 0);
        Due.is("none", x.copy(0, 0, 0, 1, 0), 0);
        Due.is("none from behind the last", x.copy(0, 2, 0, 2, 0), 0);
        Due.is("none to a sheet of none", x.copy(0, 0, 1, 0, 0), 0);
        Due.is("none from a sheet of none", x.copy(1, 0, 0, 2, 0), 0);
        numbersAre(x, 0, 1, 2);
    }

    private static Supplier<BasinVotes> fourSheets() {
        return () -> {
            BasinVotes x = new BasinVotes();
            for (int s = 0; s < 4; s++) {
                put(x, s, 64, 1, 2, 3);
            }
            return x;
        };
    }

    private static void copyNoSuchSheet() {
        Doc.promise(29, "BEYOND: no such sheet (either).");
        range("copy, sheet", fourSheets(), (x, v) -> x.copy(v, 0, 1, 0, 3), 0, 3);
        range("copy, to sheet", fourSheets(), (x, v) -> x.copy(1, 0, v, 0, 3), 0, 3);
        range("copy, both", fourSheets(), (x, v) -> x.copy(v, 0, v, 0, 3), 0, 3);
    }

    private static void copyMissing() {
        Doc.promise(29, "MISSING: one is.");
        BasinVotes x = sheetOf(8, 1);
        Due.is("from one that is missing", x.copy(1, 0, 0, 0, 1), MISSING);
        Due.is("to one that is missing", x.copy(0, 0, 1, 0, 1), MISSING);
        Due.is("none of it", x.copy(0, 0, 1, 0, 0), MISSING);
        Due.is("both", x.copy(1, 0, 2, 0, 0), MISSING);
        Due.is("itself", x.copy(1, 0, 1, 0, 0), MISSING);
        x.sheet(0, 0, 0);
        Due.is("gone", x.copy(0, 0, 0, 0, 0), MISSING);
    }

    private static void copyKind() {
        Doc.promise(29, "KIND: they are not of as many bits.");
        for (int bits : WIDTHS) {
            for (int others : WIDTHS) {
                BasinVotes x = sheetOf(bits, 1);
                put(x, 1, others, 2);
                Due.is("copy of " + bits + " bits to " + others, x.copy(0, 0, 1, 0, 1), bits == others ? 1 : KIND);
                Due.is("copy of none of " + bits + " bits to " + others, x.copy(0, 0, 1, 0, 0), bits == others ? 0 : KIND);
                numbersAre(x, 1, bits == others ? 1 : 2);
            }
        }
    }

    private static void copyNotSoMany() {
        Doc.promise(29, "BEYOND: one has not so many, or from, to or n is below 0.");
        range("copy, n", fourSheets(), (x, v) -> x.copy(0, 0, 1, 0, v), 0, 3);
        range("copy, n from 1", fourSheets(), (x, v) -> x.copy(0, 1, 1, 0, v), 0, 2);
        range("copy, n to 1", fourSheets(), (x, v) -> x.copy(0, 0, 1, 1, v), 0, 2);
        range("copy, from", fourSheets(), (x, v) -> x.copy(0, v, 1, 0, 1), 0, 2);
        range("copy, to", fourSheets(), (x, v) -> x.copy(0, 0, 1, v, 1), 0, 2);
        range("copy, from of none", fourSheets(), (x, v) -> x.copy(0, v, 1, 0, 0), 0, 3);
        range("copy, to of none", fourSheets(), (x, v) -> x.copy(0, 0, 1, v, 0), 0, 3);
        // Sums that go round: from and n are each large, or one below 0 makes good the other.
        int most = Integer.MAX_VALUE;
        int[][] odd = {{most, 0, most}, {0, most, most}, {most, most, 2}, {most, 0, 1}, {0, most, 1}, {-1, 0, 2}, {0, -1, 2},
            {2, 2, -1}, {3, 3, -3}, {Integer.MIN_VALUE, 0, Integer.MIN_VALUE}, {1, 1, Integer.MIN_VALUE}, {-1, -1, 0}};
        for (int[] a : odd) {
            BasinVotes x = fourSheets().get();
            Due.is("copy of " + Arrays.toString(a), x.copy(0, a[0], 1, a[1], a[2]), BEYOND);
            numbersAre(x, 1, 1, 2, 3);
        }
        BasinVotes x = sheetOf(8, 1, 2, 3);
        put(x, 1, 8, 4);
        Due.is("the other has not so many", x.copy(0, 0, 1, 0, 2), BEYOND);
        Due.is("the one has not so many", x.copy(1, 0, 0, 0, 2), BEYOND);
        numbersAre(x, 0, 1, 2, 3);
        numbersAre(x, 1, 4);
    }

    private static void laysPence() {
        Doc.promise(30, "Numbers of a sheet become PENCE of PEOPLE 0, 1, .. (those that aren't 0 to 9999, or stand for none, are left out): "
            + "how many came.");
        BasinVotes x = with(THROWER, LADY, BOY);
        put(x, 0, 16, 0, 9999, 5);
        Due.is("three for three", x.lays(0), 3);
        Due.is("pence of 0", x.of(0, PENCE), 0);
        Due.is("pence of 1", x.of(1, PENCE), 9999);
        Due.is("pence of 2", x.of(2, PENCE), 5);
        put(x, 0, 16, 7);
        Due.is("one for three", x.lays(0), 1);
        Due.is("pence of 0", x.of(0, PENCE), 7);
        Due.is("pence of 1", x.of(1, PENCE), 9999);
        BasinVotes y = eight();
        put(y, 1, 64, 1, 2, 3, 4, 5, 6, 7, 8, 9);
        Due.is("nine for eight", y.lays(1), 8);
        Due.is("pence of 7", y.of(7, PENCE), 8);
        Due.is("pence of all", y.now(5), 36);
        numbersAre(y, 1, 1, 2, 3, 4, 5, 6, 7, 8, 9);
    }

    private static void laysLeftOut() {
        BasinVotes x = with(THROWER, LADY, BOY, STRANGER);
        put(x, 0, 64, -1, 10000, 9999, 0);
        Due.is("two of four", x.lays(0), 2);
        Due.is("-1 is left out", x.of(0, PENCE), 20);
        Due.is("10000 is left out", x.of(1, PENCE), 20);
        Due.is("9999 comes", x.of(2, PENCE), 9999);
        Due.is("0 comes", x.of(3, PENCE), 0);
        // The lowest 32 bits of these are 5, but they are no 5.
        put(x, 0, 64, (1L << 32) + 5, (1L << 63) + 5, Long.MAX_VALUE, Long.MIN_VALUE);
        Due.is("none of four", x.lays(0), 0);
        put(x, 0, 16, 32767, -1, 10000, 9999);
        Due.is("one of four", x.lays(0), 1);
        put(x, 0, 8, 200, 127, -1, 0);
        Due.is("two of four: 200 is -56 in 8 bits", x.lays(0), 2);
        Due.is("pence of 0", x.of(0, PENCE), 20);
        Due.is("pence of 1", x.of(1, PENCE), 127);
        Due.is("nobody there", sheetOf(8, 1, 2).lays(0), 0);
        Due.is("no numbers", noNumbers().lays(0), 0);
        Due.is("no finding", x.status(-1), 0);
    }

    private static BasinVotes noNumbers() {
        BasinVotes x = eight();
        x.sheet(0, 8, 0);
        return x;
    }

    private static void laysNoSuchSheet() {
        Doc.promise(30, "BEYOND: no such sheet.");
        range("lays", fourSheets(), BasinVotes::lays, 0, 3);
    }

    private static void laysMissing() {
        Doc.promise(30, "MISSING.");
        for (int s = 0; s < 4; s++) {
            BasinVotes x = eight();
            Due.is("at first", x.lays(s), MISSING);
            x.sheet(s, 8, 1);
            x.sheet(s, 0, 1);
            Due.is("gone", x.lays(s), MISSING);
            Due.is("pence", x.now(5), 160);
        }
    }

    private static void bookAhead() {
        Doc.promise(31, "A book: PENCE of one 0, 1, 2, .. DAYS AHEAD comes to a sheet, as many as it has numbers: how many.");
        BasinVotes x = with(BOY, THROWER);
        x.set(0, AWAY, 1);
        x.sheet(0, 16, 0);
        Due.is("none", x.book(0, 1), 0);
        put(x, 1, 16, 99);
        Due.is("one: pence now", x.book(1, 1), 1);
        numbersAre(x, 1, 20);
        x.sheet(2, 64, 40);
        Due.is("40", x.book(2, 1), 40);
        for (int n = 0; n < 40; n++) {
            Due.is(n + " days ahead", x.write(2, n, 0), 20 + n);
        }
        Due.is("40 of one that is away", x.book(2, 0), 40);
        Due.is("the last", x.write(2, 39, 0), 20);
        Due.is("day", x.now(0), 0);
        Due.is("pence", x.of(1, PENCE), 20);
        // The lowest bits, as of any number that a sheet gets.
        BasinVotes y = one(THROWER, 126);
        y.sheet(0, 8, 4);
        Due.is("four of 8 bits", y.book(0, 0), 4);
        numbersAre(y, 0, 126, 127, -128, -127);
        BasinVotes z = one(BOY, 9999);
        z.sheet(0, 16, 2);
        z.book(0, 0);
        numbersAre(z, 0, 9999, 9999);
    }

    private static Supplier<BasinVotes> fourSheetsAndTwo() {
        return () -> {
            BasinVotes x = fourSheets().get();
            x.person(LADY);
            x.person(BOY);
            return x;
        };
    }

    private static void bookNoSuchSheet() {
        Doc.promise(31, "BEYOND: no such sheet.");
        range("book, sheet", fourSheetsAndTwo(), (x, v) -> x.book(v, 0), 0, 3);
    }

    private static void bookMissing() {
        Doc.promise(31, "MISSING.");
        for (int s = 0; s < 4; s++) {
            BasinVotes x = eight();
            Due.is("at first", x.book(s, 0), MISSING);
            x.sheet(s, 8, 1);
            x.sheet(s, 0, 1);
            Due.is("gone", x.book(s, 0), MISSING);
        }
    }

    private static void bookPerson() {
        Doc.promise(31, "BEYOND: person.");
        range("book, person", fourSheetsAndTwo(), (x, v) -> x.book(0, v), 0, 1);
        range("book, nobody", fourSheets(), (x, v) -> x.book(0, v), 0, -1);
        Supplier<BasinVotes> town = () -> {
            BasinVotes x = eight();
            x.sheet(0, 8, 0);
            return x;
        };
        range("book of no numbers, person", town, (x, v) -> x.book(0, v), 0, 7);
    }

    private static void readPairs() {
        Doc.promise(32, "THE READER: numbers of a sheet are PENCE of one 0, 1, 2, .. DAYS AHEAD: how many pairs of a KIND of it and "
            + "a KIND of another one make it just so.");
        // By a day one with 5 that comes first has, as thrower 6, lady 7, boy 5, stranger 6, agent 3, diver 5.
        int[] pairs = {0, 0, 0, 6, 0, 12, 12, 6, 0};
        for (int then = 0; then < pairs.length; then++) {
            BasinVotes x = with(AGENT, DIVER);
            x.set(0, PENCE, 5);
            put(x, 0, 16, 5, then);
            Due.is("pairs for 5, " + then, x.read(0, 0, 1), pairs[then]);
            Due.is("kinds stay", x.of(0, 0) * 10 + x.of(1, 0), AGENT * 10 + DIVER);
        }
        // One that comes second has 22 by a day as a boy or diver behind one with 5 that throws 2 or more: stranger, agent.
        BasinVotes y = with(THROWER, THROWER);
        y.set(0, PENCE, 5);
        put(y, 3, 64, 20, 22);
        Due.is("by the other's kind", y.read(3, 1, 0), 4);
        put(y, 3, 64, 20, 22 + (1L << 32));
        Due.is("just so, not in its lowest bits", y.read(3, 1, 0), 0);
        // What was booked is read again: its own pair is one of them.
        BasinVotes z = eight();
        z.sheet(0, 16, 40);
        z.book(0, 5);
        Due.holds("its own pair at least", z.read(0, 5, 4) >= 1);
    }

    private static void readOfNoNumbers() {
        BasinVotes x = eight();
        x.sheet(0, 8, 0);
        Due.is("no numbers: all pairs", x.read(0, 0, 7), 36);
        Due.is("no numbers: all pairs", x.read(0, 7, 0), 36);
        put(x, 0, 8, 20);
        Due.is("pence now: all pairs", x.read(0, 7, 0), 36);
        put(x, 0, 8, 21);
        Due.is("other pence now: none", x.read(0, 7, 0), 0);
        x.set(7, PENCE, 200);
        put(x, 0, 8, 200);
        Due.is("200 is -56 in 8 bits: none", x.read(0, 7, 0), 0);
        put(x, 0, 16, 200);
        Due.is("200: all pairs", x.read(0, 7, 0), 36);
    }

    private static void readTheLastNumber() {
        BasinVotes x = with(THROWER, BOY);
        x.set(1, AWAY, 1);
        x.sheet(0, 16, 40);
        x.book(0, 0);
        // Thrower and stranger have one more each day; a lady has 40 by the 20th day, and no more.
        Due.is("40 numbers", x.read(0, 0, 1), 12);
        long last = x.write(0, 39, 0);
        Due.is("the last", last, 59);
        Due.is("another last one", x.read(0, 0, 1), 0);
        x.write(0, 39, 59);
        Due.is("40 numbers", x.read(0, 0, 1), 12);
        x.write(0, 0, 19);
        Due.is("another first one", x.read(0, 0, 1), 0);
    }

    private static void readNoSuchSheet() {
        Doc.promise(32, "BEYOND: no such sheet.");
        range("read, sheet", fourSheetsAndTwo(), (x, v) -> x.read(v, 0, 1), 0, 3);
    }

    private static void readMissing() {
        Doc.promise(32, "MISSING.");
        for (int s = 0; s < 4; s++) {
            BasinVotes x = eight();
            Due.is("at first", x.read(s, 0, 1), MISSING);
            x.sheet(s, 8, 1);
            x.sheet(s, 0, 1);
            Due.is("gone", x.read(s, 0, 1), MISSING);
        }
    }

    private static void readPeople() {
        Doc.promise(32, "BEYOND: person, other (also one and the same).");
        Supplier<BasinVotes> town = () -> {
            BasinVotes x = eight();
            x.sheet(0, 8, 0);
            return x;
        };
        range("read, person", town, (x, v) -> x.read(0, v, 4), 0, 7);
        range("read, other", town, (x, v) -> x.read(0, 4, v), 0, 7);
        for (int who = 0; who < 8; who++) {
            Due.is("one and the same", town.get().read(0, who, who), BEYOND);
        }
        BasinVotes x = with(LADY);
        x.sheet(0, 8, 0);
        Due.is("one alone has no other", x.read(0, 0, 1), BEYOND);
        Due.is("one alone has no other", x.read(0, 0, 0), BEYOND);
    }
}
