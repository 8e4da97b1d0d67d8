/** THE TAPE and THE TEXT of a TOWN: where a token ends, what may stand where, and the place of each kind of fault. */
final class TextEdges extends Towns {
    private static final String EIGHT_BOYS = "boy;boy;boy;boy;boy;boy;boy;boy";

    private TextEdges() {
    }

    static void all() {
        tapeAtMost();
        tokensAsLongAsCanBe();
        wordsOfLetters();
        numbersOfDigits();
        numbersAtMost();
        sign();
        blanks();
        itemsBetweenSigns();
        namesOfKinds();
        leansInTexts();
        penceInTexts();
        coinsInTexts();
        bribesInTexts();
        awayInTexts();
        awayOfOneToldBefore();
        firstFault();
        placesOfFaults();
        faultOfANumber();
        faultOfAWord();
        faultOfALetter();
        faultOfAByte();
        faultOfANinth();
        endsTooEarly();
        feedLowestBytes();
        feedBeyond();
        feedFull();
        wipe();
        townComesToWhatThereIs();
        townIsEmptyThen();
        nothingOfALongerText();
        townWithAFault();
    }

    /** The text is read; its items are counted. */
    private static BasinVotes read(String text, int items) {
        BasinVotes x = with(THROWER, LADY);
        Due.is("'" + text + "'", told(x, text), items);
        Due.is("tape behind '" + text + "'", x.count(1), 0);
        return x;
    }

    /** The text has a fault at that place; nothing changes but that the tape is empty, and it is no finding. */
    private static void fault(String text, int place) {
        BasinVotes x = with(THROWER, LADY);
        x.lies(0, LEFT, 5);
        Due.is("fault in '" + text + "'", told(x, text), -1 - place);
        Due.is("people behind '" + text + "'", x.count(0), 2);
        Due.is("left behind '" + text + "'", x.count(2), 5);
        Due.is("right behind '" + text + "'", x.count(3), 0);
        Due.is("pence behind '" + text + "'", x.now(5), 40);
        Due.is("bribe behind '" + text + "'", x.now(3), 0);
        Due.is("those away behind '" + text + "'", x.of(0, AWAY) + x.of(1, AWAY), 0);
        Due.is("tape behind '" + text + "'", x.count(1), 0);
        Due.is("status behind '" + text + "'", x.status(-1), 0);
    }

    private static void tapeAtMost() {
        Doc.terms("THE TEXT of a TOWN, from THE TAPE (bytes, at most 120).");
        // The last byte of 120 is part of the text: a pence of 9, not none.
        String text = " ".repeat(120 - 11) + "boy pence 9";
        BasinVotes x = new BasinVotes();
        Due.is("a text of 120 bytes", told(x, text), 1);
        Due.is("pence", x.of(0, PENCE), 9);
        feedAll(x, text);
        Due.is("a byte more", x.feed('9', 1), FULL);
        Due.is("the text is as it was", x.town(), 1);
        Due.is("pence", x.of(1, PENCE), 9);
    }

    private static void tokensAsLongAsCanBe() {
        Doc.terms("TOKENS, each as long as can be:");
        fault("boyboy", 0);
        fault("boyleans 3", 0);
        fault("bribeleft", 0);
        fault("boy leanspence 3", 4);
        // One number 15 is no question, though 1 and 5 would be two.
        fault("left 15", 5);
        // One number 05, and then it ends.
        fault("left 05", 7);
        Due.is("99, not 9 and 9", read("boy pence 99", 1).of(2, PENCE), 99);
        // A word ends at a digit and a number at a letter.
        BasinVotes x = read("lady leans7pence8;left2 9;away0", 3);
        Due.is("leans", x.of(2, LEANS), 7);
        Due.is("pence", x.of(2, PENCE), 8);
        Due.is("left", x.basin(2, LEFT), 9);
        Due.is("away", x.of(0, AWAY), 1);
    }

    private static void wordsOfLetters() {
        Doc.terms("WORDS (letters a to z),");
        fault("Boy", 0);
        fault("bOy", 0);
        fault("boY", 0);
        fault("BOY", 0);
        // The bytes next to a and z.
        fault("boy" + (char) ('a' - 1), 3);
        fault("boy" + (char) ('z' + 1), 3);
        fault((char) ('a' - 1) + "boy", 0);
        fault((char) ('z' + 1) + "boy", 0);
        // a and z themselves make the word another one.
        fault("boya", 0);
        fault("boyz", 0);
    }

    private static void numbersOfDigits() {
        Doc.terms("NUMBERS (digits,");
        Due.is("all digits", read("left 0 1234;right 0 5678;right 1 90", 3).now(6), 1234 + 5678 + 90);
        // The bytes next to 0 and 9.
        fault("boy pence " + (char) ('0' - 1), 10);
        fault("boy pence " + (char) ('9' + 1), 10);
        fault("boy pence 5" + (char) ('0' - 1), 11);
        fault("boy pence 5" + (char) ('9' + 1), 11);
        fault("boy pence -1", 10);
        fault("boy pence +1", 10);
        fault("boy pence 1.5", 11);
    }

    private static void numbersAtMost() {
        Doc.terms("9999 at most), SIGN");
        Due.is("9999", read("boy pence 9999", 1).of(2, PENCE), 9999);
        Due.is("noughts ahead", read("boy pence 0000000000009999", 1).of(2, PENCE), 9999);
        Due.is("noughts alone", read("boy pence 00000000000000", 1).of(2, PENCE), 0);
        fault("boy pence 10000", 10);
        fault("boy pence 00010000", 10);
        // What would be 5 again in 8, 16, 32 and 64 bits.
        fault("boy pence 65541", 10);
        fault("boy pence 4294967301", 10);
        fault("boy pence 18446744073709551621", 10);
        fault("boy pence " + "9".repeat(110), 10);
    }

    private static void sign() {
        Doc.terms("SIGN ; ;");
        Due.is("people", read("boy;lady", 2).count(0), 4);
        fault("boy,lady", 3);
        fault("boy:lady", 3);
        // The byte behind it.
        fault("boy<lady", 3);
    }

    private static void blanks() {
        Doc.terms("blanks may stand between.");
        Due.is("between any two", read("boy   leans   3   pence   4   ;   left   0   7", 2).of(2, PENCE), 4);
        Due.is("ahead", read("   boy", 1).count(0), 3);
        Due.is("behind", read("boy   ", 1).count(0), 3);
        Due.is("none", read("left0 7;bribe right;away1", 3).now(3), 1);
        fault("bo y", 0);
        fault("left 0 9 9", 9);
        fault("boy\tpence 3", 3);
        fault("boy\n", 3);
        fault("\rboy", 0);
        fault("boy" + (char) 0, 3);
        fault("boy" + (char) 31, 3);
        fault("boy!", 3);
        fault("boy" + (char) 160, 3);
    }

    private static void itemsBetweenSigns() {
        Doc.terms("TEXT: ITEM { ; ITEM }.");
        read("boy", 1);
        read("bribe left;bribe right", 2);
        BasinVotes x = new BasinVotes();
        Due.is("thirteen items", told(x, "left 0 1;".repeat(12) + "left 0 2"), 13);
        Due.is("the last of them counts", x.basin(0, LEFT), 2);
        Due.is("as many items as a tape can hold", told(new BasinVotes(), EIGHT_BOYS + ";away0".repeat(14)), 22);
        fault(";", 0);
        fault(";boy", 0);
        fault("boy;;boy", 4);
        fault("boy boy", 4);
        fault("bribe left bribe right", 11);
        fault("boy;", 4);
        fault("boy;  ", 6);
    }

    private static void namesOfKinds() {
        Doc.terms("ITEM: the name of a KIND (thrower lady boy stranger agent diver),");
        String[] names = {"thrower", "lady", "boy", "stranger", "agent", "diver"};
        for (int kind : ALL_KINDS) {
            BasinVotes x = read(names[kind], 1);
            Due.is("people", x.count(0), 3);
            Due.is("kind", x.of(2, 0), kind);
            Due.is("leans", x.of(2, LEANS), 0);
            Due.is("pence", x.of(2, PENCE), 20);
            Due.is("away", x.of(2, AWAY), 0);
            fault(names[kind] + "s", 0);
            fault(names[kind].substring(1), 0);
            fault(names[kind].substring(0, names[kind].length() - 1), 0);
        }
    }

    private static void leansInTexts() {
        Doc.terms("perhaps leans and a NUMBER (a set: 0 to 63),");
        Due.is("leans 0", read("boy leans 0", 1).of(2, LEANS), 0);
        Due.is("leans 63", read("boy leans 63", 1).of(2, LEANS), 63);
        fault("boy leans 64", 10);
        fault("boy leans 9999", 10);
        fault("boy leans 10000", 10);
        fault("boy leans lady", 10);
        fault("boy leans;lady", 9);
        fault("boy leans", 9);
        fault("boy leans 3 leans 3", 12);
        fault("boy lean 3", 4);
        fault("boy 3", 4);
        fault("leans 3", 0);
    }

    private static void penceInTexts() {
        Doc.terms("perhaps pence and a NUMBER (0 to 9999): one more;");
        BasinVotes x = read("boy pence 0;lady leans 5 pence 9999", 2);
        Due.is("people", x.count(0), 4);
        Due.is("pence 0", x.of(2, PENCE), 0);
        Due.is("leans, with pence alone", x.of(2, LEANS), 0);
        Due.is("pence 9999", x.of(3, PENCE), 9999);
        Due.is("leans", x.of(3, LEANS), 5);
        fault("boy pence 10000", 10);
        fault("boy leans 1 pence 10000", 18);
        fault("boy pence left", 10);
        fault("boy pence", 9);
        fault("boy pence;", 9);
        // leans comes ahead of pence, and each once.
        fault("boy pence 1 leans 1", 12);
        fault("boy pence 1 pence 1", 12);
        fault("boy leans 1 pence 1 leans 1", 20);
        fault("pence 3", 0);
    }

    private static void coinsInTexts() {
        Doc.terms("left or right, a NUMBER (a QUESTION), a NUMBER (0 to 9999): so much lies there;");
        BasinVotes x = read("left 0 9999;right 5 9999;left 5 1;right 0 2;left 1 7;left 1 0", 6);
        Due.is("left of 0", x.basin(0, LEFT), 9999);
        Due.is("right of 5", x.basin(5, RIGHT), 9999);
        Due.is("left of 5", x.basin(5, LEFT), 1);
        Due.is("right of 0", x.basin(0, RIGHT), 2);
        Due.is("left of 1", x.basin(1, LEFT), 0);
        fault("left 6 1", 5);
        fault("right 6 1", 6);
        fault("right 9999 1", 6);
        fault("left 5 10000", 7);
        fault("right 5 10000", 8);
        fault("left boy", 5);
        fault("left 5 boy", 7);
        fault("left;", 4);
        fault("left 5;", 6);
        fault("left 5 5 5", 9);
        fault("left right 5", 5);
    }

    private static void bribesInTexts() {
        Doc.terms("bribe left or bribe right;");
        BasinVotes x = read("bribe right", 1);
        Due.is("bribe", x.now(3), 1);
        Due.is("'bribe left'", told(x, "bribe left"), 1);
        Due.is("bribe", x.now(3), 0);
        fault("bribe 1", 6);
        fault("bribe 0", 6);
        fault("bribe boy", 6);
        fault("bribe bribe", 6);
        fault("bribe ;", 6);
        fault("bribe", 5);
        fault("bribe right 1", 12);
        fault("bribe right left", 12);
    }

    private static void awayInTexts() {
        Doc.terms("away, a NUMBER (one there by then).");
        BasinVotes x = read("away 1", 1);
        Due.is("away", x.of(1, AWAY), 1);
        Due.is("not away", x.of(0, AWAY), 0);
        Due.is("away as it was", told(x, "away 1;away 1;away 0"), 3);
        Due.is("away", x.of(1, AWAY), 1);
        fault("away 2", 5);
        fault("away 8", 5);
        fault("away 9999", 5);
        fault("away 10000", 5);
        fault("away boy", 5);
        fault("away;", 4);
        fault("away", 4);
        fault("away 0 1", 7);
        Due.is("the eighth", told(eight(), "away 7"), 1);
        Due.is("a ninth", told(eight(), "away 8"), -1 - 5);
        Due.is("nobody there", told(new BasinVotes(), "away 0"), -1 - 5);
    }

    private static void awayOfOneToldBefore() {
        BasinVotes x = read("boy;away 2;diver;away 3", 4);
        Due.is("away", x.of(2, AWAY), 1);
        Due.is("away", x.of(3, AWAY), 1);
        fault("away 2;boy", 5);
        fault("boy;away 3;boy", 9);
    }

    private static void firstFault() {
        Doc.terms("FAULT: the place (from 0) of the first byte of the first TOKEN that can't stand there");
        fault("#", 0);
        fault("boy;girl;#;left 9", 4);
        fault("left 9 99999", 5);
        fault("boy leans 99 pence 99999", 10);
        // Of a long token the first byte, though what makes it one that can't stand comes later.
        fault("boy pence 000000012345", 10);
        fault("boy;   strangers", 7);
    }

    private static void placesOfFaults() {
        for (int place = 0; place < 120; place++) {
            Due.is("fault at " + place, told(new BasinVotes(), " ".repeat(place) + "#"), -1 - place);
        }
        Due.is("fault at the last of 120 bytes", told(new BasinVotes(), "boy" + " ".repeat(116) + "#"), -1 - 119);
        Due.is("120 bytes that end too early", told(new BasinVotes(), "boy;" + " ".repeat(116)), -1 - 120);
    }

    private static void faultOfANumber() {
        Doc.terms("(a NUMBER that may not be,");
        fault("boy leans 64", 10);
        fault("left 6 0", 5);
        fault("left 0 10000", 7);
        fault("away 2", 5);
        // No number may be there at all.
        fault("12", 0);
        fault("boy;5", 4);
        fault("boy leans 5 5", 12);
        fault("bribe 5", 6);
        fault("bribe 10000", 6);
    }

    private static void faultOfAWord() {
        Doc.terms("another WORD,");
        fault("girl", 0);
        fault("b", 0);
        fault("boy;towns", 4);
        fault("boy away 0", 4);
        fault("bribe boy", 6);
        fault("left left", 5);
        fault("away away", 5);
        fault("a".repeat(120), 0);
    }

    private static void faultOfALetter() {
        // Each word with one letter changed is another one, and a fault at the word's place.
        String[] before = {"", "", "", "", "", "", "", "", "", "", "boy ", "boy ", "bribe ", "bribe "};
        String[] words = {"thrower", "lady", "boy", "stranger", "agent", "diver", "left", "right", "bribe", "away", "leans", "pence",
            "left", "right"};
        String[] behind = {"", "", "", "", "", "", " 0 1", " 0 1", " left", " 0", " 1", " 1", "", ""};
        for (int w = 0; w < words.length; w++) {
            read(before[w] + words[w] + behind[w], 1);
            for (int i = 0; i < words[w].length(); i++) {
                String other = words[w].substring(0, i) + "q" + words[w].substring(i + 1);
                fault(before[w] + other + behind[w], before[w].length());
            }
        }
    }

    private static void faultOfAByte() {
        Doc.terms("a byte that begins no TOKEN,");
        for (int b = 0; b < 256; b++) {
            boolean begins = b >= 'a' && b <= 'z' || b >= '0' && b <= '9' || b == ';' || b == ' ';
            if (!begins) {
                fault("boy" + (char) b + ";boy", 3);
                fault((char) b + "boy", 0);
            }
        }
        fault("boy;boy#", 7);
        fault("boy leans #", 10);
        fault("left 0 #", 7);
        fault((char) 200 + "", 0);
    }

    private static void faultOfANinth() {
        Doc.terms("the name of a KIND for a 9th: its own),");
        Due.is("a ninth", told(eight(), "boy"), -1);
        Due.is("a ninth", told(eight(), "  boy leans 64"), -1 - 2);
        Due.is("a ninth, behind what can stand", told(eight(), "left 0 1;diver pence 3"), -1 - 9);
        BasinVotes x = new BasinVotes();
        Due.is("nine", told(x, EIGHT_BOYS + "; boy"), -1 - 33);
        Due.is("people", x.count(0), 0);
        Due.is("eight", told(x, EIGHT_BOYS), 8);
        Due.is("people", x.count(0), 8);
        Due.is("another word than a kind's", told(x, "girl"), -1);
        Due.is("what is no ninth", told(x, "left 0 1"), 1);
    }

    private static void endsTooEarly() {
        Doc.terms("or how many bytes there are if it ends too early.");
        String[] early = {"", " ", "     ", "boy;", "boy ; ", "boy leans", "boy leans   ", "boy leans 3 pence", "boy pence ",
            "left", "left ", "left 5", "right 5 ", "bribe", "bribe ", "away", "away  ", "boy;left 1 2;bribe right;away 0;"};
        for (String text : early) {
            fault(text, text.length());
        }
    }

    private static void feedLowestBytes() {
        Doc.promise(24, "THE TAPE gets the n lowest bytes of a number behind it, the highest of these first (n 1 to 4): how many it has.");
        BasinVotes x = new BasinVotes();
        Due.is("1 byte", x.feed(0x7A7A7A62, 1), 1);
        Due.is("2 bytes", x.feed(0x7A7A6F79, 2), 3);
        Due.is("3 bytes", x.feed(0x7A207065, 3), 6);
        Due.is("4 bytes", x.feed(0x6E636520, 4), 10);
        Due.is("1 byte", x.feed(-256 + '7', 1), 11);
        Due.is("'boy pence 7'", x.town(), 1);
        Due.is("kind", x.of(0, 0), BOY);
        Due.is("pence", x.of(0, PENCE), 7);
        // The highest bit is a bit like the others.
        x.feed(' ', 1);
        x.feed(0x80626F79, 4);
        Due.is("a highest byte of 128", x.town(), -1 - 1);
    }

    private static void feedBeyond() {
        Doc.promise(24, "BEYOND: n.");
        range("feed, n", BasinVotes::new, (x, v) -> x.feed(' ', v), 1, 4);
        BasinVotes x = new BasinVotes();
        Due.is("any number", x.feed(Integer.MIN_VALUE, 4), 4);
        Due.is("any number", x.feed(Integer.MAX_VALUE, 4), 8);
        Due.is("any number", x.feed(-1, 1), 9);
    }

    private static void feedFull() {
        Doc.promise(24, "FULL.");
        for (int n = 1; n <= 4; n++) {
            BasinVotes x = new BasinVotes();
            feedAll(x, " ".repeat(120 - n));
            Due.is(n + " to the brim", x.feed(0x20202020, n), 120);
            x = new BasinVotes();
            feedAll(x, " ".repeat(121 - n));
            Due.is(n + " above the brim", x.feed(0x3B3B3B3B, n), FULL);
            Due.is("none of them came", x.count(1), 121 - n);
            Due.is("none of them came", x.town(), -1 - (121 - n));
            Due.is("there is room again", x.feed(0, n), n);
        }
    }

    private static void wipe() {
        Doc.promise(25, "THE TAPE is empty: how many it had.");
        BasinVotes x = new BasinVotes();
        Due.is("none", x.wipe(), 0);
        x.feed('b', 1);
        Due.is("one", x.wipe(), 1);
        feedAll(x, " ".repeat(120));
        Due.is("120", x.wipe(), 120);
        Due.is("none", x.wipe(), 0);
        Due.is("tape", x.count(1), 0);
        Due.is("nothing of it is read", told(x, "boy"), 1);
        feedAll(x, "lady;lady");
        x.wipe();
        Due.is("nothing of it is read", told(x, "lady"), 1);
        Due.is("people", x.count(0), 2);
        Due.is("no finding", x.status(-1), 0);
    }

    private static void townComesToWhatThereIs() {
        Doc.promise(26, "THE TAPE is THE TEXT of a TOWN, whose ITEMS come to what there is,");
        BasinVotes x = eight();
        x.days(7);
        x.held(42);
        x.set(3, AWAY, 1);
        long pence = x.now(5);
        x.lies(4, RIGHT, 8);
        Due.is("'left 4 6;away 0;bribe right'", told(x, "left 4 6;away 0;bribe right"), 3);
        Due.is("people", x.count(0), 8);
        Due.is("day", x.now(0), 7);
        Due.is("held", x.now(2), 42);
        Due.is("pence", x.now(5), pence);
        Due.is("what lay there stays", x.basin(4, RIGHT), 8);
        Due.is("what lies there", x.basin(4, LEFT), 6);
        Due.is("one away stays away", x.of(3, AWAY), 1);
        Due.is("one more away", x.of(0, AWAY), 1);
    }

    private static void townIsEmptyThen() {
        Doc.promise(26, "and empty then: how many ITEMS.");
        BasinVotes x = new BasinVotes();
        Due.is("one item", told(x, "boy"), 1);
        Due.is("tape", x.count(1), 0);
        Due.is("an empty one has no item", x.town(), -1);
        Due.is("people", x.count(0), 1);
        // A shorter text has nothing of the longer one before.
        Due.is("a long text", told(x, "left 0 1;left 1 1;left 2 1"), 3);
        Due.is("a short text", told(x, "left 0 1"), 1);
        feedAll(x, " ".repeat(120));
        Due.is("room for 120 again", x.count(1), 120);
    }

    /** What the first text had behind the place where the second one ends is gone. */
    private static void secondText(String first, String second, int answer) {
        BasinVotes x = new BasinVotes();
        told(x, first);
        Due.is("'" + second + "' behind '" + first + "'", told(x, second), answer);
        BasinVotes y = new BasinVotes();
        feedAll(y, first);
        y.wipe();
        Due.is("'" + second + "' behind a wiped '" + first + "'", told(y, second), answer);
    }

    private static void nothingOfALongerText() {
        secondText("#" + " ".repeat(119), "left 0 1;", -1 - 9);
        secondText("#" + "1".repeat(119), "left 0 1", 1);
        BasinVotes x = new BasinVotes();
        told(x, "left 0 123");
        Due.is("'left 0 9' behind 'left 0 123'", told(x, "left 0 9"), 1);
        Due.is("left", x.basin(0, LEFT), 9);
        secondText("#" + "9".repeat(119), "boy pence", -1 - 9);
        secondText("#" + "s".repeat(119), "boy", 1);
        secondText("#" + ";".repeat(119), "boy", 1);
        secondText("#" + "boy;".repeat(29) + "boy", "boy;", -1 - 4);
        secondText("#" + "#".repeat(119), "boy", 1);
    }

    private static void townWithAFault() {
        Doc.promise(26, "With a FAULT: -1 less its place (nothing changes but that THE TAPE is empty; no finding).");
        fault("boy leans 3 pence 4;left 3 9;right 2 9;bribe right;away 0;away 1;#", 65);
        fault("left 0 9;left 0", 15);
        BasinVotes x = with(LADY);
        x.set(0, PENCE, 77);
        x.image();
        x.set(0, PENCE, 78);
        Due.is("a fault", told(x, "away 0;boy;"), -1 - 11);
        Due.is("one more is a new one", x.person(BOY), 1);
        Due.is("not one of the text with the fault", x.of(1, PENCE), 20);
        Due.is("what is kept stays", x.undo(), 1);
        Due.is("pence that were kept", x.of(0, PENCE), 77);
        Due.is("status", x.status(-1), 0);
    }
}
