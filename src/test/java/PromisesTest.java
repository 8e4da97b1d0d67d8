/** Each promise of the document: ordinary inputs, the edges that it names, and wrong inputs. Answers are worked by hand. */
public final class PromisesTest extends Towns {
    private static final int[] WILD = {Integer.MIN_VALUE, -1000000, -1, 1000000, Integer.MAX_VALUE};

    private PromisesTest() {
    }

    public static void main(String[] args) {
        promise1();
        promises2to6();
        promise7();
        promise8();
        promise9Sides();
        promise9Dives();
        promises10and11();
        promise12();
        promise13();
        promise13Caps();
        promise13Order();
        promise13LastDay();
        promises14to17();
        promise18();
        promise19();
        promise20();
        promise21();
        promise22();
        promise23();
        promises24and25();
        promise26();
        promise26Faults();
        promise26PeopleInFaults();
        promise27();
        promise28();
        promise29();
        promise30();
        promise31();
        promise32();
        promises33to35();
        promise36();
        promise37();
        Due.end();
    }

    private static void promise1() {
        BasinVotes x = new BasinVotes();
        for (int what = 0; what <= 6; what++) {
            Due.is("1 now " + what, x.now(what), 0);
        }
        for (int what = 0; what <= 3; what++) {
            Due.is("1 count " + what, x.count(what), 0);
        }
        for (int q = 0; q < 6; q++) {
            for (int what = 0; what <= 2; what++) {
                Due.is("1 basin " + q + " " + what, x.basin(q, what), 0);
            }
        }
        Due.is("1 of", x.of(0, 0), BEYOND);
        Due.is("1 wipe", x.wipe(), 0);
        Due.is("1 undo", x.undo(), NONE);
        Due.is("1 tear", x.tear(), 0);
        for (int s = 0; s < 4; s++) {
            Due.is("1 write", x.write(s, 0, 0), MISSING);
        }
        Due.is("1 status", x.status(-1), 6);
        BasinVotes other = new BasinVotes();
        Due.is("1 another object has nothing of the first", other.status(-1), 0);
    }

    private static void promises2to6() {
        BasinVotes x = with(THROWER, THROWER);
        Due.is("2 lies", x.lies(5, 1, 9999), 0);
        Due.is("2 lies", x.lies(5, 1, 7), 9999);
        Due.is("2 lies", x.lies(5, 0, 3), 0);
        Due.is("2 lies", x.lies(0, 0, 4), 0);
        for (int wild : WILD) {
            Due.is("2 question", x.lies(wild, 0, 1), BEYOND);
            Due.is("2 side", x.lies(0, wild, 1), BEYOND);
            Due.is("2 v", x.lies(0, 0, wild), BEYOND);
            Due.is("3 question", x.basin(wild, 0), BEYOND);
            Due.is("3 what", x.basin(0, wild), BEYOND);
            Due.is("4 bribe", x.bribe(wild), BEYOND);
            Due.is("5 held", x.held(wild), BEYOND);
            Due.is("6 now", x.now(wild), BEYOND);
        }
        Due.is("2 question 6", x.lies(6, 0, 1), BEYOND);
        Due.is("2 side 2", x.lies(0, 2, 1), BEYOND);
        Due.is("2 v 10000", x.lies(0, 0, 10000), BEYOND);
        Due.is("3 question 6", x.basin(6, 0), BEYOND);
        Due.is("3 what 3", x.basin(0, 3), BEYOND);
        Due.is("4 bribe 2", x.bribe(2), BEYOND);
        Due.is("5 held 64", x.held(64), BEYOND);
        Due.is("6 now 7", x.now(7), BEYOND);
        Due.is("3 left", x.basin(5, 0), 3);
        Due.is("3 right", x.basin(5, 1), 7);
        Due.is("3 left of 0", x.basin(0, 0), 4);
        Due.is("4 bribe", x.bribe(1), 0);
        Due.is("4 bribe", x.bribe(1), 1);
        Due.is("5 held", x.held(33), 0);
        Due.is("5 held", x.held(34), 33);
        Due.is("3 for the left", x.basin(5, 2), 1);
        Due.is("3 for the left", x.basin(1, 2), 1);
        Due.is("3 not for the left", x.basin(0, 2), 0);
        Due.is("6 held", x.now(2), 34);
        Due.is("6 bribe", x.now(3), 1);
        x.set(1, 1, 1);
        x.set(0, 2, 9999);
        Due.is("6 those for the left", x.now(4), 2);
        x.set(0, 1, 1);
        Due.is("6 those for the left", x.now(4), 3);
        x.set(0, 1, 62);
        x.set(1, 3, 1);
        Due.is("6 those for the left that aren't away", x.now(4), 0);
        Due.is("6 all pence, those away too", x.now(5), 9999 + 20);
        Due.is("6 all that lies", x.now(6), 3 + 7 + 4);
        x.days(7);
        Due.is("6 day", x.now(0), 7);
        Due.is("6 question", x.now(1), 1);
    }

    private static void promise7() {
        BasinVotes x = new BasinVotes();
        Due.is("7 kind 6", x.person(6), BEYOND);
        for (int wild : WILD) {
            Due.is("7 kind", x.person(wild), BEYOND);
        }
        for (int i = 0; i < 8; i++) {
            Due.is("7 person", x.person(i % 6), i);
            Due.is("7 kind of it", x.of(i, 0), i % 6);
            Due.is("7 leans", x.of(i, 1), 0);
            Due.is("7 pence", x.of(i, 2), 20);
            Due.is("7 away", x.of(i, 3), 0);
        }
        Due.is("7 beyond comes ahead of full", x.person(6), BEYOND);
        Due.is("7 full", x.person(0), FULL);
        Due.is("7 people", x.count(0), 8);
    }

    private static void promise8() {
        BasinVotes x = with(THROWER, LADY, BOY, STRANGER, AGENT, DIVER);
        long[] earns = {2, 3, 0, 4, 0, 0};
        long[] at20 = {1, 2, 0, 3, 4, 0};
        long[] at0 = {0, 0, 0, 0, 0, 0};
        long[] at1 = {1, 1, 0, 1, 1, 0};
        long[] at2 = {1, 1, 0, 2, 2, 0};
        long[] at19 = {1, 1, 0, 3, 2, 0};
        long[] at9999 = {1, 500, 0, 3, 1000, 0};
        for (int i = 0; i < 6; i++) {
            Due.is("8 kind", x.of(i, 0), i);
            Due.is("8 earns " + i, x.of(i, 5), earns[i]);
            throwsWith(x, i, 20, at20[i]);
            throwsWith(x, i, 0, at0[i]);
            throwsWith(x, i, 1, at1[i]);
            throwsWith(x, i, 2, at2[i]);
            throwsWith(x, i, 19, at19[i]);
            throwsWith(x, i, 9999, at9999[i]);
        }
        x.set(3, 1, 42);
        x.set(3, 3, 1);
        Due.is("8 leans", x.of(3, 1), 42);
        Due.is("8 pence", x.of(3, 2), 9999);
        Due.is("8 away", x.of(3, 3), 1);
        Due.is("8 throws, though away", x.of(3, 4), 3);
        Due.is("8 earns, though away", x.of(3, 5), 4);
        for (int wild : WILD) {
            Due.is("8 person", x.of(wild, 0), BEYOND);
            Due.is("8 what", x.of(0, wild), BEYOND);
        }
        Due.is("8 person 6", x.of(6, 0), BEYOND);
        Due.is("8 what 6", x.of(0, 6), BEYOND);
    }

    private static void throwsWith(BasinVotes x, int person, int pence, long want) {
        x.set(person, 2, pence);
        Due.is("8 throws of " + person + " with " + pence, x.of(person, 4), want);
    }

    private static void promise9Sides() {
        BasinVotes x = with(THROWER, LADY, BOY, STRANGER, AGENT, DIVER);
        long[] none = {1, 1, 0, 0, 0, 0};
        for (int i = 0; i < 6; i++) {
            Due.is("9 side of " + i, x.acts(i, 2, 0), none[i]);
        }
        for (int i = 0; i < 6; i++) {
            x.set(i, 1, 4);
        }
        x.bribe(1);
        long[] leaning = {0, 0, 0, 0, 1, 0};
        long[] elsewhere = {1, 1, 0, 0, 1, 0};
        for (int i = 0; i < 6; i++) {
            Due.is("9 side of one that leans " + i, x.acts(i, 2, 0), leaning[i]);
            Due.is("9 side of one that leans in another " + i, x.acts(i, 1, 0), elsewhere[i]);
        }
        x.days(1);
        Due.is("9 the stranger goes by days", x.acts(3, 2, 0), 1);
        x.lies(2, 0, 30);
        x.lies(2, 1, 10);
        Due.is("9 the lady's is 20 ahead", x.acts(1, 2, 0), 0);
        x.lies(2, 0, 31);
        Due.is("9 the lady's is 21 ahead", x.acts(1, 2, 0), 1);
        Due.is("9 the thrower does not mind", x.acts(0, 2, 0), 0);
        x.lies(3, 1, 20);
        Due.is("9 her right is 20 ahead", x.acts(1, 3, 0), 1);
        x.lies(3, 1, 21);
        Due.is("9 her right is 21 ahead", x.acts(1, 3, 0), 0);
        x.lies(3, 1, 0);
        x.lies(3, 0, 21);
        Due.is("9 the other is ahead", x.acts(1, 3, 0), 1);
        Due.is("9 the boy's is that of less", x.acts(2, 2, 0), 1);
        Due.is("9 the diver's is the boy's", x.acts(5, 2, 0), 1);
        x.lies(2, 1, 32);
        Due.is("9 the boy's is that of less", x.acts(2, 2, 0), 0);
        x.set(1, 3, 1);
        Due.is("9 one that is away has a side, too", x.acts(1, 2, 0), 0);
    }

    private static void promise9Dives() {
        BasinVotes x = with(THROWER, LADY, BOY, STRANGER, AGENT, DIVER);
        x.lies(0, 0, 9999);
        x.lies(0, 1, 9999);
        long[] much = {0, 0, 2, 0, 0, 2001};
        x.lies(1, 1, 1);
        long[] one = {0, 0, 1, 0, 0, 1};
        x.lies(2, 0, 10);
        x.lies(2, 1, 9);
        long[] nineteen = {0, 0, 2, 0, 0, 3};
        x.lies(3, 0, 2);
        long[] two = {0, 0, 2, 0, 0, 2};
        for (int i = 0; i < 6; i++) {
            Due.is("9 dives of " + i, x.acts(i, 0, 1), much[i]);
            Due.is("9 dives of " + i + ", 1 there", x.acts(i, 1, 1), one[i]);
            Due.is("9 dives of " + i + ", 19 there", x.acts(i, 2, 1), nineteen[i]);
            Due.is("9 dives of " + i + ", 2 there", x.acts(i, 3, 1), two[i]);
            Due.is("9 dives of " + i + ", none there", x.acts(i, 4, 1), 0);
        }
        for (int wild : WILD) {
            Due.is("9 person", x.acts(wild, 0, 0), BEYOND);
            Due.is("9 question", x.acts(0, wild, 0), BEYOND);
            Due.is("9 what", x.acts(0, 0, wild), BEYOND);
        }
        Due.is("9 person 6", x.acts(6, 0, 0), BEYOND);
        Due.is("9 question 6", x.acts(0, 6, 0), BEYOND);
        Due.is("9 what 2", x.acts(0, 0, 2), BEYOND);
    }

    private static void promises10and11() {
        BasinVotes x = with(THROWER, LADY);
        Due.is("10 leans", x.set(1, 1, 63), 0);
        Due.is("10 leans", x.set(1, 1, 0), 63);
        Due.is("10 pence", x.set(1, 2, 9999), 20);
        Due.is("10 pence", x.set(1, 2, 0), 9999);
        Due.is("10 away", x.set(1, 3, 1), 0);
        Due.is("10 away", x.set(1, 3, 0), 1);
        Due.is("10 leans 64", x.set(1, 1, 64), BEYOND);
        Due.is("10 pence 10000", x.set(1, 2, 10000), BEYOND);
        Due.is("10 away 2", x.set(1, 3, 2), BEYOND);
        Due.is("10 what 0", x.set(1, 0, 1), BEYOND);
        Due.is("10 what 4", x.set(1, 4, 1), BEYOND);
        Due.is("10 person 2", x.set(2, 1, 1), BEYOND);
        for (int wild : WILD) {
            Due.is("10 person", x.set(wild, 1, 1), BEYOND);
            Due.is("10 what", x.set(0, wild, 1), BEYOND);
            for (int what = 1; what <= 3; what++) {
                Due.is("10 v", x.set(0, what, wild), BEYOND);
            }
            Due.is("11 person", x.turn(wild, 0), BEYOND);
            Due.is("11 kind", x.turn(0, wild), BEYOND);
        }
        Due.is("10 the other one stays", x.of(0, 2), 20);
        x.set(1, 1, 5);
        x.set(1, 2, 77);
        Due.is("11 turn", x.turn(1, DIVER), LADY);
        Due.is("11 turn", x.turn(1, DIVER), DIVER);
        Due.is("11 kind", x.of(1, 0), DIVER);
        Due.is("11 leans stay", x.of(1, 1), 5);
        Due.is("11 pence stay", x.of(1, 2), 77);
        Due.is("11 the other one stays", x.of(0, 0), THROWER);
        Due.is("11 person 2", x.turn(2, 0), BEYOND);
        Due.is("11 kind 6", x.turn(0, 6), BEYOND);
    }

    private static void promise12() {
        BasinVotes x = with(THROWER, LADY, BOY, STRANGER, AGENT, DIVER);
        boolean[][] isOf = {
            {true, false, false, false, false, false},
            {true, true, false, false, false, false},
            {true, false, true, false, false, false},
            {true, false, false, true, false, false},
            {true, true, false, false, true, false},
            {true, false, true, false, false, true},
        };
        for (int i = 0; i < 6; i++) {
            x.set(i, 2, 30 + i);
            for (int k = 0; k < 6; k++) {
                Due.is("12 " + i + " as " + k, x.as(i, k), isOf[i][k] ? 30 + i : KIND);
            }
        }
        for (int wild : WILD) {
            Due.is("12 person", x.as(wild, 0), BEYOND);
            Due.is("12 kind", x.as(0, wild), BEYOND);
        }
        Due.is("12 person 6", x.as(6, 0), BEYOND);
        Due.is("12 kind 6", x.as(0, 6), BEYOND);
    }

    private static void promise13() {
        BasinVotes x = with(LADY);
        x.set(0, 1, 1);
        // She has 23, throws 2 to the left: half of 2 stays.
        Due.is("13 a day", x.days(1), 1);
        Due.is("13 pence", x.of(0, 2), 21);
        Due.is("13 left", x.basin(0, 0), 1);
        Due.is("13 day", x.now(0), 1);
        // 24, throws 2 to the right of question 1.
        x.held(3);
        Due.is("13 a day", x.days(1), 1);
        Due.is("13 right", x.basin(1, 1), 1);
        Due.is("13 pence", x.of(0, 2), 22);
        // Nobody throws; question 2 is alike on both sides, and stays as it was.
        x.set(0, 3, 1);
        x.held(63);
        x.lies(2, 0, 7);
        x.lies(2, 1, 7);
        Due.is("13 alike", x.days(1), 63);
        Due.is("13 half stays", x.basin(2, 0), 3);
        Due.is("13 half stays", x.basin(2, 1), 3);
        Due.is("13 one that is away earns nothing", x.of(0, 2), 22);
        x.held(0);
        x.lies(3, 0, 4);
        x.lies(3, 1, 4);
        Due.is("13 alike", x.days(1), 0);
        Due.is("13 other questions are left alone", x.basin(2, 0), 3);
        // The net asks before it halves: 5 and 4 both leave 2.
        x.lies(4, 0, 5);
        x.lies(4, 1, 4);
        Due.is("13 one more left", x.days(1), 16);
        Due.is("13 half stays", x.basin(4, 0), 2);
        for (int wild : WILD) {
            Due.is("13 n", x.days(wild), BEYOND);
        }
        Due.is("13 n 0", x.days(0), BEYOND);
        Due.is("13 n 101", x.days(101), BEYOND);
        // 1 still lies left in question 0, and holds it again when its day comes.
        Due.is("13 n 100", x.days(100), 17);
        Due.is("13 day", x.now(0), 105);
        Due.is("13 question", x.now(1), 3);
    }

    private static void promise13Caps() {
        BasinVotes x = with(STRANGER, DIVER);
        x.set(0, 2, 9997);
        x.set(1, 2, 9000);
        x.lies(0, 0, 9998);
        x.lies(0, 1, 9999);
        // 9999 at most, less 3; the left is full at 9999. The diver takes 2 + 1999 out of the left: alike.
        x.days(1);
        Due.is("13 earns to 9999 at most", x.of(0, 2), 9996);
        Due.is("13 dives to 9999 at most", x.of(1, 2), 9999);
        Due.is("13 left, full, less what was taken", x.basin(0, 0), (9999 - 2001) / 2);
        Due.is("13 right", x.basin(0, 1), 9999 / 2);
        BasinVotes y = with(BOY);
        y.lies(0, 1, 1);
        y.days(1);
        Due.is("13 no more than lie there", y.of(0, 2), 21);
        Due.is("13 none lies there then", y.basin(0, 1), 0);
        Due.is("13 alike then", y.basin(0, 2), 0);
        BasinVotes z = with(AGENT);
        z.set(0, 2, 1);
        z.days(1);
        Due.is("13 throws no more than it has", z.of(0, 2), 0);
        Due.is("13 one to the left", z.now(2), 1);
    }

    private static void promise13Order() {
        // The boy comes behind the lady and takes what she threw: he has 22, and none is left.
        BasinVotes x = with(LADY, BOY);
        Due.is("13 alike", x.days(1), 0);
        Due.is("13 boy", x.of(1, 2), 22);
        Due.is("13 lady", x.of(0, 2), 21);
        Due.is("13 right", x.basin(0, 1), 0);
        // The boy comes first and finds nothing.
        BasinVotes y = with(BOY, LADY);
        y.set(1, 1, 1);
        Due.is("13 left", y.days(1), 1);
        Due.is("13 boy", y.of(0, 2), 20);
        Due.is("13 left", y.basin(0, 0), 1);
        // Two ladies: the second sees what the first threw, 21 of 400 with 3 more, and throws to the other side.
        BasinVotes z = with(LADY, LADY);
        z.set(0, 2, 400);
        z.set(1, 2, 400);
        Due.is("13 the first lady's coins are seen", z.days(1), 0);
        Due.is("13 left", z.basin(0, 0), 21 / 2);
        Due.is("13 right", z.basin(0, 1), 21 / 2);
    }

    private static void promise13LastDay() {
        // Past 512 calls answers are free; this class goes on as before, and only so can the last DAY be reached.
        BasinVotes x = new BasinVotes();
        for (int i = 0; i < 999; i++) {
            x.days(100);
        }
        Due.is("13 day", x.now(0), 99900);
        Due.is("13 beyond comes first", x.days(101), BEYOND);
        Due.is("13 above the last day", x.days(100), STATE);
        Due.is("13 to the last day", x.days(99), 0);
        Due.is("13 the last day", x.now(0), 99999);
        Due.is("13 above the last day", x.days(1), STATE);
        Due.is("13 nothing changed", x.now(0), 99999);
    }

    private static void promises14to17() {
        BasinVotes x = with(THROWER, STRANGER);
        x.set(0, 2, 0);
        x.set(0, 1, 2);
        // The thrower has 1 more each day; the stranger throws 3 left on even days, right on odd ones, 1 more each day.
        for (int n = 0; n <= 200; n += 50) {
            Due.is("14 thrower " + n, x.on(0, n), n);
            Due.is("14 stranger " + n, x.on(1, n), 20 + n);
        }
        // Day 0, question 0: right 1, left 3: 1 and 0 stay.
        Due.is("15 left", x.then(0, 1, 0), 1);
        Due.is("15 right", x.then(0, 1, 1), 0);
        Due.is("15 held", x.then(0, 1, 2), 1);
        Due.is("15 not yet", x.then(0, 0, 2), 0);
        // Day 1, question 1: left 1, right 3.
        Due.is("15 right of 1", x.then(1, 2, 1), 1);
        Due.is("15 held of 1", x.then(1, 2, 2), 0);
        Due.is("15 day 200", x.then(0, 200, 2), 1);
        Due.is("16 at once", x.flips(0), 1);
        Due.is("16 question 4", x.flips(4), 5);
        Due.is("16 never", x.flips(1), NONE);
        x.held(63);
        Due.is("16 question 1", x.flips(1), 2);
        Due.is("16 never", x.flips(0), NONE);
        Due.is("17 now", x.rich(1, 20), 0);
        Due.is("17 a day", x.rich(1, 21), 1);
        Due.is("17 200 days", x.rich(1, 220), 200);
        Due.is("17 201 days", x.rich(1, 221), NONE);
        Due.is("17 0", x.rich(0, 0), 0);
        Due.is("17 9999", x.rich(0, 9999), NONE);
        Due.is("ahead nothing changes: day", x.now(0), 0);
        Due.is("ahead nothing changes: pence", x.now(5), 20);
        Due.is("ahead nothing changes: basin", x.now(6), 0);
        Due.is("ahead nothing changes: held", x.now(2), 63);
        for (int wild : WILD) {
            Due.is("14 person", x.on(wild, 0), BEYOND);
            Due.is("14 n", x.on(0, wild), BEYOND);
            Due.is("15 question", x.then(wild, 0, 0), BEYOND);
            Due.is("15 n", x.then(0, wild, 0), BEYOND);
            Due.is("15 what", x.then(0, 0, wild), BEYOND);
            Due.is("16 question", x.flips(wild), BEYOND);
            Due.is("17 person", x.rich(wild, 0), BEYOND);
            Due.is("17 v", x.rich(0, wild), BEYOND);
        }
        Due.is("14 n 201", x.on(0, 201), BEYOND);
        Due.is("14 person 2", x.on(2, 0), BEYOND);
        Due.is("15 question 6", x.then(6, 0, 0), BEYOND);
        Due.is("15 n 201", x.then(0, 201, 0), BEYOND);
        Due.is("15 what 3", x.then(0, 0, 3), BEYOND);
        Due.is("16 question 6", x.flips(6), BEYOND);
        Due.is("17 person 2", x.rich(2, 0), BEYOND);
        Due.is("17 v 10000", x.rich(0, 10000), BEYOND);
        flipsAtTheEnd();
    }

    private static void flipsAtTheEnd() {
        // 9999 lie right in question 1, whose nets are on days 1, 7, ..: 14 halvings leave 0.
        BasinVotes x = with(THROWER);
        x.set(0, 1, 2);
        x.lies(1, 1, 9999);
        // The one penny left leaves nothing each time: the 14th net still finds 1 and 1, the 15th 1 and 0.
        Due.is("16 the first net in which 1 is more than what lies right", x.flips(1), 2 + 6 * 14);
        x.days(1);
        Due.is("16 counted from now", x.flips(1), 1 + 6 * 14);
        x.set(0, 3, 1);
        Due.is("16 nobody throws", x.flips(1), NONE);
    }

    private static void promise18() {
        BasinVotes x = with(THROWER);
        // A day later: thrower 21, lady 21, boy 20, stranger 21, agent 16, diver 20: of several the least.
        Due.is("18 alone", x.kind(0, 1), 0);
        x.lies(0, 0, 2);
        // The boy and the diver take 2: 22.
        Due.is("18 the boy", x.kind(0, 1), BOY);
        x.lies(0, 0, 8);
        x.lies(0, 1, 2);
        Due.is("18 the diver", x.kind(0, 1), DIVER);
        Due.is("18 nothing changes", x.of(0, 0), THROWER);
        // With 0: thrower 1, lady 3 - 1, stranger 4 - 3, and nothing to dive for.
        x.lies(0, 0, 0);
        x.lies(0, 1, 0);
        x.set(0, 2, 0);
        Due.is("18 the lady", x.kind(0, 1), LADY);
        x.turn(0, DIVER);
        Due.is("18 the lady, as a diver", x.kind(0, 5), LADY);
        x.set(0, 3, 1);
        Due.is("18 away, all alike", x.kind(0, 60), 0);
        for (int wild : WILD) {
            Due.is("18 person", x.kind(wild, 1), BEYOND);
            Due.is("18 n", x.kind(0, wild), BEYOND);
        }
        Due.is("18 person 1", x.kind(1, 1), BEYOND);
        Due.is("18 n 0", x.kind(0, 0), BEYOND);
        Due.is("18 n 61", x.kind(0, 61), BEYOND);
    }

    private static void promise19() {
        BasinVotes x = with(THROWER);
        Due.is("19 a day", x.lean(0, 1), 1);
        Due.is("19 three days", x.lean(0, 3), 7);
        Due.is("19 six days", x.lean(0, 6), 63);
        Due.is("19 forty days", x.lean(0, 40), 63);
        x.held(5);
        Due.is("19 unlike held as it is", x.lean(0, 6), 63 - 5);
        Due.is("19 unlike held as it is", x.lean(0, 1), 0);
        x.turn(0, AGENT);
        Due.is("19 all alike", x.lean(0, 6), 0);
        Due.is("19 nothing changes", x.of(0, 1), 0);
        for (int wild : WILD) {
            Due.is("19 person", x.lean(wild, 1), BEYOND);
            Due.is("19 n", x.lean(0, wild), BEYOND);
        }
        Due.is("19 person 1", x.lean(1, 1), BEYOND);
        Due.is("19 n 0", x.lean(0, 0), BEYOND);
        Due.is("19 n 41", x.lean(0, 41), BEYOND);
    }

    private static void promise20() {
        BasinVotes x = with(LADY);
        x.set(0, 1, 1);
        x.set(0, 2, 5);
        x.lies(0, 1, 5);
        // She earns 3 and throws 1 and a 20th: more than 5 with 97 and 3.
        Due.is("20 a day", x.buys(0, 0, 1), 100);
        x.lies(0, 1, 51);
        Due.is("20 the most that is tried", x.buys(0, 0, 1), NONE);
        x.lies(0, 1, 50);
        Due.is("20 the most that is tried", x.buys(0, 0, 1), 1000);
        x.lies(0, 1, 0);
        Due.is("20 none is needed", x.buys(0, 0, 1), 0);
        x.held(1);
        Due.is("20 held already", x.buys(0, 0, 1), NONE);
        Due.is("20 nothing changes", x.of(0, 2), 5);
        for (int wild : WILD) {
            Due.is("20 person", x.buys(wild, 0, 1), BEYOND);
            Due.is("20 question", x.buys(0, wild, 1), BEYOND);
            Due.is("20 n", x.buys(0, 0, wild), BEYOND);
        }
        Due.is("20 person 1", x.buys(1, 0, 1), BEYOND);
        Due.is("20 question 6", x.buys(0, 6, 1), BEYOND);
        Due.is("20 n 0", x.buys(0, 0, 0), BEYOND);
        Due.is("20 n 61", x.buys(0, 0, 61), BEYOND);
    }

    private static void promise21() {
        BasinVotes x = with(THROWER, THROWER, THROWER);
        x.set(0, 1, 1);
        x.set(1, 1, 6);
        x.set(2, 1, 1);
        // Question 0: 2 left, 1 right; 1 and 2: 1 left, 2 right. Without 0: question 0 alike, not for the left.
        Due.is("21 a day", x.swing(1), 0);
        x.set(0, 3, 1);
        // Question 0: 1 and 1, alike: not held. Without 1: held.
        Due.is("21 the one that counts", x.swing(1), 1);
        x.held(1);
        // Without 1 the left has more, held as it would be; without 2 the right has more.
        Due.is("21 the one that counts", x.swing(1), 2);
        x.set(2, 3, 1);
        x.set(1, 3, 1);
        Due.is("21 all are away", x.swing(60), NONE);
        BasinVotes y = with(THROWER, STRANGER);
        y.set(0, 1, 63);
        // Two days: stranger 3 left on day 0, 3 right on day 1. Without him: question 1 is held. Without 0: nothing else.
        Due.is("21 two days", y.swing(2), 1);
        Due.is("21 a day", y.swing(1), NONE);
        Due.is("21 nothing changes", y.of(1, 3), 0);
        for (int wild : WILD) {
            Due.is("21 n", y.swing(wild), BEYOND);
        }
        Due.is("21 n 0", y.swing(0), BEYOND);
        Due.is("21 n 61", y.swing(61), BEYOND);
    }

    private static void promise22() {
        BasinVotes x = with(AGENT);
        Due.is("22 left", x.pays(6), 0);
        x.bribe(1);
        Due.is("22 left, though it is the right", x.pays(60), 0);
        Due.is("22 nothing changes", x.now(3), 1);
        // A lady who leans right with 21 or more ahead there throws left: to bribe the right turns her.
        BasinVotes y = with(AGENT, LADY);
        y.set(0, 2, 240);
        y.set(1, 2, 1000);
        // Right: 26 lie there, she throws 51 left: held. Left: 26, and she 51 right: not held.
        Due.is("22 right", y.pays(1), 1);
        BasinVotes z = with(THROWER);
        Due.is("22 alike", z.pays(6), 0);
        for (int wild : WILD) {
            Due.is("22 n", z.pays(wild), BEYOND);
        }
        Due.is("22 n 0", z.pays(0), BEYOND);
        Due.is("22 n 61", z.pays(61), BEYOND);
    }

    private static void promise23() {
        BasinVotes x = new BasinVotes();
        Due.is("23 beyond comes first", x.richest(201), BEYOND);
        Due.is("23 nobody", x.richest(0), NONE);
        x.person(AGENT);
        x.person(THROWER);
        x.person(THROWER);
        Due.is("23 of several the least", x.richest(0), 0);
        Due.is("23 a day", x.richest(1), 1);
        x.set(2, 2, 21);
        x.set(2, 3, 1);
        Due.is("23 one away is rich, too", x.richest(0), 2);
        Due.is("23 alike then", x.richest(1), 1);
        Due.is("23 200 days", x.richest(200), 1);
        for (int wild : WILD) {
            Due.is("23 n", x.richest(wild), BEYOND);
        }
    }

    private static void promises24and25() {
        BasinVotes x = new BasinVotes();
        Due.is("24 one byte, the lowest", x.feed(0x01020300 + 'b', 1), 1);
        Due.is("24 two bytes, the higher first", x.feed(0x01020000 + ('o' << 8) + 'y', 2), 3);
        Due.is("24 read", x.town(), 1);
        Due.is("24 a boy", x.of(0, 0), BOY);
        for (int wild : WILD) {
            Due.is("24 n", x.feed(0, wild), BEYOND);
        }
        Due.is("24 n 0", x.feed(0, 0), BEYOND);
        Due.is("24 n 5", x.feed(0, 5), BEYOND);
        for (int i = 1; i <= 29; i++) {
            Due.is("24 four bytes", x.feed(-1, 4), 4 * i);
        }
        Due.is("24 three bytes", x.feed(0x20202020, 3), 119);
        Due.is("24 full", x.feed(0, 2), FULL);
        Due.is("24 beyond comes first", x.feed(0, 5), BEYOND);
        Due.is("24 to the brim", x.feed(0, 1), 120);
        Due.is("24 full", x.feed(0, 1), FULL);
        Due.is("24 tape", x.count(1), 120);
        Due.is("25 wipe", x.wipe(), 120);
        Due.is("25 wipe", x.wipe(), 0);
        Due.is("25 empty", x.count(1), 0);
        Due.is("25 anew", x.feed('b', 1), 1);
    }

    private static void promise26() {
        BasinVotes x = new BasinVotes();
        Due.is("26 kinds", told(x, "thrower;lady;boy;stranger;agent;diver"), 6);
        for (int i = 0; i < 6; i++) {
            Due.is("26 kind", x.of(i, 0), i);
            Due.is("26 leans", x.of(i, 1), 0);
            Due.is("26 pence", x.of(i, 2), 20);
        }
        Due.is("26 tape", x.count(1), 0);
        Due.is("26 more", told(x, " lady leans 63 pence 9999 ; boy   pence0;away 7 "), 3);
        Due.is("26 people", x.count(0), 8);
        Due.is("26 leans", x.of(6, 1), 63);
        Due.is("26 pence", x.of(6, 2), 9999);
        Due.is("26 pence", x.of(7, 2), 0);
        Due.is("26 away", x.of(7, 3), 1);
        Due.is("26 not away", x.of(6, 3), 0);
        Due.is("26 lies", told(x, "left 0 1;right 5 9999;left5 00003"), 3);
        Due.is("26 left", x.basin(0, 0), 1);
        Due.is("26 right", x.basin(5, 1), 9999);
        Due.is("26 left", x.basin(5, 0), 3);
        Due.is("26 the last of them counts", told(x, "left 0 7;left 0 8"), 2);
        Due.is("26 left", x.basin(0, 0), 8);
        Due.is("26 bribe", told(x, "bribe right"), 1);
        Due.is("26 bribe", x.now(3), 1);
        Due.is("26 bribe", told(x, "bribe left"), 1);
        Due.is("26 bribe", x.now(3), 0);
        Due.is("26 away as it was", told(x, "away 7;away 0000000000000000000000000000000000006"), 2);
        Due.is("26 away", x.of(6, 3), 1);
        BasinVotes y = new BasinVotes();
        Due.is("26 one told in the text is there by then", told(y, "boy leans 1;away 0;agent pence 5;away 1"), 4);
        Due.is("26 away", y.of(1, 3), 1);
        Due.is("26 no finding", y.status(-1), 0);
    }

    private static void fault(String text, int place) {
        BasinVotes x = with(THROWER, LADY);
        x.lies(0, 0, 5);
        Due.is("26 fault in '" + text + "'", told(x, text), -1 - place);
        Due.is("26 people", x.count(0), 2);
        Due.is("26 basin", x.now(6), 5);
        Due.is("26 pence", x.now(5), 40);
        Due.is("26 bribe", x.now(3), 0);
        Due.is("26 away", x.of(0, 3), 0);
        Due.is("26 tape", x.count(1), 0);
        Due.is("26 no finding", x.status(-1), 0);
    }

    private static void promise26Faults() {
        String[] early = {"", "   ", "boy;", "boy ; ", "boy leans", "boy leans ", "boy leans 3 pence", "left", "left 0",
            "right 0 ", "bribe", "bribe left;", "away", "boy;left 1 2;bribe right;away 0;"};
        for (String text : early) {
            fault(text, text.length());
        }
        fault(";", 0);
        fault(" ;boy", 1);
        fault("boy;;boy", 4);
        fault("boy boy", 4);
        fault("boy lean 3", 4);
        fault("boyleans 3", 0);
        fault("boy 3", 4);
        fault("boy3", 3);
        fault("boy leans boy", 10);
        fault("boy leans 64", 10);
        fault("boy leans 10000", 10);
        fault("boy leans 4294967296", 10);
        fault("boy leans 3 leans 3", 12);
        fault("boy leans;", 9);
        fault("boy pence 10000", 10);
        fault("boy pence 99990000000000", 10);
        fault("boy pence 1 leans 1", 12);
        fault("boy pence 1 pence 1", 12);
        fault("boy pence -1", 10);
        fault("left 6 1", 5);
        fault("left 5 10000", 7);
        fault("left 5;1", 6);
        fault("left right", 5);
        fault("right 5 5 5", 10);
        fault("bribe 1", 6);
        fault("bribe boy", 6);
        fault("bribe left left", 11);
        fault("left 0 9;bribe right;away 0;away 2", 33);
        fault("away -1", 5);
        fault("away boy", 5);
        fault("Boy", 0);
        fault("boY", 0);
        fault("boyY", 3);
        fault("toy", 0);
        fault("boyz", 0);
        fault("aboy", 0);
        fault("boy,boy", 3);
        fault("boy;\tboy", 4);
        fault("boy\n", 3);
        fault("boy" + (char) 233, 3);
        fault((char) 0 + "boy", 0);
        fault("boy;" + (char) 255, 4);
        fault("{", 0);
        fault("boy`", 3);
        fault("boy:", 3);
        fault("boy/", 3);
        fault("12", 0);
        fault("throwe", 0);
        fault("throwers", 0);
        fault("leans 3", 0);
        fault("pence 3", 0);
        fault("boy#leans", 3);
        fault("boy leans 3;girl;#", 12);
    }

    private static void promise26PeopleInFaults() {
        BasinVotes x = with(0, 0, 0, 0, 0, 0, 0);
        Due.is("26 a 9th", told(x, "boy;  lady leans 64"), -1 - 6);
        Due.is("26 people", x.count(0), 7);
        Due.is("26 the 8th", told(x, "boy"), 1);
        Due.is("26 a 9th", told(x, "left 0 1;diver"), -1 - 9);
        Due.is("26 nothing came", x.basin(0, 0), 0);
        BasinVotes y = new BasinVotes();
        Due.is("26 nobody there", told(y, "away 0"), -1 - 5);
        Due.is("26 not there by then", told(y, "boy;away 1;boy"), -1 - 9);
        Due.is("26 people", y.count(0), 0);
        String eightBoys = "boy;boy;boy;boy;boy;boy;boy;boy";
        Due.is("26 nine boys", told(y, eightBoys + ";boy"), -1 - 32);
        Due.is("26 eight boys", told(y, eightBoys), 8);
        eightAreAsGoodAsFewer(y);
        BasinVotes z = with(LADY);
        Due.is("26 a long text", told(z, "left 0 1;                    "), -1 - 29);
        Due.is("26 a shorter one has nothing of it", told(z, "left 0 1;"), -1 - 9);
        z.image();
        z.set(0, 2, 5);
        z.person(BOY);
        z.set(1, 1, 9);
        z.undo();
        Due.is("26 one more is new", told(z, "agent"), 1);
        Due.is("26 leans of a new one", z.of(1, 1), 0);
    }

    private static void eightAreAsGoodAsFewer(BasinVotes eightBoys) {
        Due.is("6 those for the left, of eight", eightBoys.now(4), 255);
        Due.is("6 pence of eight", eightBoys.now(5), 160);
        Due.is("21 who of eight", eightBoys.swing(60), NONE);
        eightBoys.set(7, 2, 21);
        Due.is("23 who of eight", eightBoys.richest(200), 7);
        eightBoys.lies(0, 0, 16);
        Due.is("13 eight boys take 16", eightBoys.days(1), 0);
        Due.is("13 the last has his two", eightBoys.of(7, 2), 23);
    }

    private static void promise27() {
        BasinVotes x = new BasinVotes();
        Due.is("27 8 bits", x.sheet(0, 8, 40), 40);
        Due.is("27 16 bits", x.sheet(3, 16, 1), 1);
        Due.is("27 64 bits", x.sheet(1, 64, 0), 0);
        Due.is("27 sheet 4", x.sheet(4, 8, 1), BEYOND);
        Due.is("27 beyond comes first", x.sheet(4, 8, -1), BEYOND);
        Due.is("27 size comes behind bits", x.sheet(0, 32, -1), BEYOND);
        Due.is("27 size", x.sheet(0, 8, -1), SIZE);
        Due.is("27 size", x.sheet(0, 0, -1), SIZE);
        Due.is("27 n 41", x.sheet(0, 16, 41), BEYOND);
        Due.is("27 n 41", x.sheet(0, 0, 41), BEYOND);
        int[] noBits = {1, 7, 9, 15, 32, 63, 65, 128, -8};
        for (int bits : noBits) {
            Due.is("27 bits", x.sheet(0, bits, 1), BEYOND);
        }
        for (int wild : WILD) {
            Due.is("27 sheet", x.sheet(wild, 8, 1), BEYOND);
            Due.is("27 bits", x.sheet(0, wild, 1), BEYOND);
            Due.is("27 n", x.sheet(0, 8, wild), wild < 0 ? SIZE : BEYOND);
        }
        Due.is("27 still there", x.write(0, 39, 5), 0);
        x.write(0, 0, 6);
        Due.is("27 anew", x.sheet(0, 64, 40), 40);
        Due.is("27 all 0", x.write(0, 0, 0), 0);
        Due.is("27 all 0", x.write(0, 39, 0), 0);
        Due.is("27 gone", x.sheet(0, 0, 7), 0);
        Due.is("27 missing", x.write(0, 0, 0), MISSING);
        Due.is("27 missing again", x.sheet(0, 0, 0), 0);
        Due.is("27 a shorter one", x.sheet(0, 64, 2), 2);
        Due.is("27 no more numbers", x.write(0, 2, 0), BEYOND);
    }

    private static void promise28() {
        BasinVotes x = new BasinVotes();
        x.sheet(0, 8, 2);
        x.sheet(1, 16, 2);
        x.sheet(2, 64, 2);
        Due.is("28 8 bits", x.write(0, 1, 0x17F), 0);
        Due.is("28 8 bits", x.write(0, 1, 0x80), 127);
        Due.is("28 8 bits have a sign", x.write(0, 1, -1), -128);
        Due.is("28 8 bits have a sign", x.write(0, 1, 0), -1);
        Due.is("28 16 bits", x.write(1, 0, 0x17FFF), 0);
        Due.is("28 16 bits", x.write(1, 0, 0x8000), 32767);
        Due.is("28 16 bits have a sign", x.write(1, 0, 0), -32768);
        Due.is("28 64 bits", x.write(2, 0, Long.MIN_VALUE), 0);
        Due.is("28 64 bits", x.write(2, 0, BEYOND), Long.MIN_VALUE);
        Due.is("28 a number like a finding", x.write(2, 0, 5), BEYOND);
        Due.is("28 is none", x.status(-1), 0);
        Due.is("28 others stay", x.write(2, 1, 5), 0);
        Due.is("28 sheet 4", x.write(4, 0, 0), BEYOND);
        Due.is("28 missing comes ahead of the number", x.write(3, -1, 0), MISSING);
        Due.is("28 number 2", x.write(2, 2, 0), BEYOND);
        for (int wild : WILD) {
            Due.is("28 sheet", x.write(wild, 0, 0), BEYOND);
            Due.is("28 number", x.write(0, wild, 0), BEYOND);
        }
        x.sheet(3, 64, 0);
        Due.is("28 no numbers", x.write(3, 0, 0), BEYOND);
    }

    private static void promise29() {
        BasinVotes x = new BasinVotes();
        x.sheet(0, 16, 5);
        x.sheet(1, 16, 3);
        x.sheet(2, 8, 5);
        for (int i = 0; i < 5; i++) {
            x.write(0, i, 10 + i);
        }
        Due.is("29 copy", x.copy(0, 3, 1, 1, 2), 2);
        numbersAre(x, 1, 0, 13, 14);
        Due.is("29 up over itself", x.copy(0, 0, 0, 1, 4), 4);
        numbersAre(x, 0, 10, 10, 11, 12, 13);
        Due.is("29 down over itself", x.copy(0, 1, 0, 0, 4), 4);
        numbersAre(x, 0, 10, 11, 12, 13, 13);
        Due.is("29 none", x.copy(0, 5, 1, 3, 0), 0);
        Due.is("29 all", x.copy(1, 0, 0, 2, 3), 3);
        numbersAre(x, 0, 10, 11, 0, 13, 14);
        Due.is("29 sheet 4", x.copy(4, 0, 0, 0, 0), BEYOND);
        Due.is("29 sheet 4", x.copy(0, 0, 4, 0, 0), BEYOND);
        Due.is("29 beyond comes ahead of missing", x.copy(3, 0, 4, 0, 0), BEYOND);
        Due.is("29 missing", x.copy(3, 0, 0, 0, 0), MISSING);
        Due.is("29 missing", x.copy(0, 0, 3, 0, -1), MISSING);
        Due.is("29 other bits", x.copy(0, 0, 2, 0, -1), KIND);
        Due.is("29 not so many", x.copy(0, 2, 0, 0, 4), BEYOND);
        Due.is("29 not so many", x.copy(0, 0, 1, 1, 3), BEYOND);
        Due.is("29 not so many", x.copy(0, 6, 1, 0, 0), BEYOND);
        Due.is("29 not so many", x.copy(0, 0, 1, 4, 0), BEYOND);
        for (int wild : WILD) {
            Due.is("29 sheet", x.copy(wild, 0, 0, 0, 0), BEYOND);
            Due.is("29 sheet", x.copy(0, 0, wild, 0, 0), BEYOND);
            Due.is("29 from", x.copy(0, wild, 0, 0, 1), BEYOND);
            Due.is("29 to", x.copy(0, 0, 0, wild, 1), BEYOND);
            Due.is("29 n", x.copy(0, 0, 0, 0, wild), BEYOND);
            Due.is("29 n", x.copy(0, 1, 0, 1, wild), BEYOND);
            Due.is("29 all of them", x.copy(0, wild, 0, wild, wild), BEYOND);
        }
        numbersAre(x, 0, 10, 11, 0, 13, 14);
    }

    private static void numbersAre(BasinVotes x, int s, long... want) {
        for (int i = 0; i < want.length; i++) {
            long got = x.write(s, i, 0);
            Due.is("number " + i + " of sheet " + s, got, want[i]);
            x.write(s, i, got);
        }
    }

    private static void promise30() {
        BasinVotes x = with(THROWER, THROWER, THROWER, THROWER);
        x.sheet(0, 64, 6);
        long[] numbers = {0, 10000, 9999, -1, 5, 5};
        for (int i = 0; i < numbers.length; i++) {
            x.write(0, i, numbers[i]);
        }
        Due.is("30 lays", x.lays(0), 2);
        Due.is("30 pence", x.of(0, 2), 0);
        Due.is("30 too much", x.of(1, 2), 20);
        Due.is("30 pence", x.of(2, 2), 9999);
        Due.is("30 too little", x.of(3, 2), 20);
        x.write(0, 1, 1L << 32);
        Due.is("30 far too much", x.lays(0), 2);
        Due.is("30 far too much", x.of(1, 2), 20);
        x.sheet(1, 8, 1);
        x.write(1, 0, 33);
        Due.is("30 a short sheet", x.lays(1), 1);
        Due.is("30 pence", x.of(0, 2), 33);
        Due.is("30 the others stay", x.of(2, 2), 9999);
        Due.is("30 sheet 4", x.lays(4), BEYOND);
        Due.is("30 missing", x.lays(2), MISSING);
        for (int wild : WILD) {
            Due.is("30 sheet", x.lays(wild), BEYOND);
        }
        x.person(THROWER);
        Due.is("30 none was laid for one that comes later", x.of(4, 2), 20);
    }

    private static void promise31() {
        BasinVotes x = with(STRANGER, THROWER);
        x.set(0, 2, 126);
        x.sheet(0, 16, 4);
        Due.is("31 book", x.book(0, 0), 4);
        numbersAre(x, 0, 126, 127, 128, 129);
        x.sheet(1, 8, 4);
        Due.is("31 lowest bits", x.book(1, 0), 4);
        numbersAre(x, 1, 126, 127, -128, -127);
        x.sheet(2, 64, 0);
        Due.is("31 no numbers", x.book(2, 1), 0);
        Due.is("31 nothing changes", x.of(0, 2), 126);
        Due.is("31 nothing changes", x.now(0), 0);
        Due.is("31 sheet 4", x.book(4, 5), BEYOND);
        Due.is("31 missing comes ahead of person", x.book(3, 5), MISSING);
        Due.is("31 person 2", x.book(0, 2), BEYOND);
        for (int wild : WILD) {
            Due.is("31 sheet", x.book(wild, 0), BEYOND);
            Due.is("31 person", x.book(0, wild), BEYOND);
        }
        numbersAre(x, 0, 126, 127, 128, 129);
    }

    private static void promise32() {
        BasinVotes x = with(THROWER, THROWER);
        x.set(0, 2, 5);
        x.sheet(0, 16, 0);
        Due.is("32 no numbers", x.read(0, 0, 1), 36);
        x.sheet(0, 16, 1);
        Due.is("32 not now", x.read(0, 0, 1), 0);
        x.write(0, 0, 5);
        Due.is("32 now", x.read(0, 0, 1), 36);
        x.sheet(0, 16, 2);
        x.write(0, 0, 5);
        // A day later, with 0 coming first, nothing lies there: thrower 6, lady 7, boy 5, stranger 6, agent 3, diver 5.
        x.write(0, 1, 6);
        Due.is("32 thrower and stranger", x.read(0, 0, 1), 12);
        x.write(0, 1, 7);
        Due.is("32 lady", x.read(0, 0, 1), 6);
        x.write(0, 1, 3);
        Due.is("32 agent", x.read(0, 0, 1), 6);
        x.write(0, 1, 4);
        Due.is("32 none", x.read(0, 0, 1), 0);
        // 1 comes behind 0: a boy or diver with 20 takes 1 of a thrower, lady and stranger's 1, 1, 3: see what 1 becomes.
        x.sheet(1, 64, 2);
        x.write(1, 0, 20);
        x.write(1, 1, 22);
        // 22: boy or diver behind one that throws 2 or more with 5: stranger 3, agent 2.
        Due.is("32 of the other one's kind", x.read(1, 1, 0), 4);
        x.write(1, 1, 22 + (1L << 32));
        Due.is("32 numbers are whole", x.read(1, 1, 0), 0);
        Due.is("32 nothing changes", x.of(1, 0), THROWER);
        Due.is("32 nothing changes", x.now(0), 0);
        Due.is("32 sheet 4", x.read(4, 0, 1), BEYOND);
        Due.is("32 missing comes ahead of people", x.read(3, 0, 0), MISSING);
        Due.is("32 one and the same", x.read(0, 1, 1), BEYOND);
        Due.is("32 person 2", x.read(0, 2, 0), BEYOND);
        Due.is("32 other 2", x.read(0, 0, 2), BEYOND);
        for (int wild : WILD) {
            Due.is("32 sheet", x.read(wild, 0, 1), BEYOND);
            Due.is("32 person", x.read(0, wild, 1), BEYOND);
            Due.is("32 other", x.read(0, 0, wild), BEYOND);
        }
    }

    private static void promises33to35() {
        BasinVotes x = with(LADY);
        x.lies(2, 0, 3);
        x.held(9);
        x.bribe(1);
        x.set(0, 1, 7);
        x.days(1);
        Due.is("33 image", x.image(), 1);
        long pence = x.of(0, 2);
        x.feed('b', 1);
        x.sheet(0, 8, 3);
        x.days(5);
        x.person(BOY);
        x.turn(0, DIVER);
        x.set(0, 1, 0);
        x.set(0, 3, 1);
        x.bribe(0);
        x.lies(2, 0, 8);
        x.lies(2, 1, 8);
        x.held(0);
        x.person(9);
        Due.is("34 undo", x.undo(), 1);
        Due.is("34 people", x.count(0), 1);
        Due.is("34 day", x.now(0), 1);
        Due.is("34 held", x.now(2), 9);
        Due.is("34 bribe", x.now(3), 1);
        Due.is("34 left", x.basin(2, 0), 3);
        Due.is("34 right", x.basin(2, 1), 0);
        Due.is("34 kind", x.of(0, 0), LADY);
        Due.is("34 leans", x.of(0, 1), 7);
        Due.is("34 pence", x.of(0, 2), pence);
        Due.is("34 away", x.of(0, 3), 0);
        Due.is("34 the tape stays", x.count(1), 1);
        Due.is("34 sheets stay", x.write(0, 2, 0), 0);
        Due.is("34 status stays", x.status(-1), 1);
        x.person(BOY);
        Due.is("34 it stays kept", x.undo(), 1);
        x.person(BOY);
        Due.is("33 image", x.image(), 1);
        x.person(BOY);
        Due.is("34 the latest", x.undo(), 2);
        x.set(1, 2, 99);
        Due.is("34 changes do not reach it", x.undo(), 2);
        Due.is("34 pence", x.of(1, 2), 20);
        Due.is("35 tear", x.tear(), 1);
        Due.is("35 tear", x.tear(), 0);
        Due.is("34 none", x.undo(), NONE);
        Due.is("34 nothing changes", x.count(0), 2);
        x.set(0, 3, 1);
        x.image();
        x.person(BOY);
        x.set(2, 3, 1);
        x.set(2, 2, 7);
        x.undo();
        x.person(AGENT);
        Due.is("34 one more is new: away", x.of(2, 3), 0);
        Due.is("34 one more is new: pence", x.of(2, 2), 20);
    }

    private static void promise36() {
        BasinVotes x = with(LADY, BOY);
        x.feed(0, 3);
        for (int q = 0; q < 6; q++) {
            x.lies(q, 0, 1 << q);
            x.lies(q, 1, 100);
        }
        Due.is("36 people", x.count(0), 2);
        Due.is("36 tape", x.count(1), 3);
        Due.is("36 left", x.count(2), 63);
        Due.is("36 right", x.count(3), 600);
        Due.is("36 what 4", x.count(4), BEYOND);
        for (int wild : WILD) {
            Due.is("36 what", x.count(wild), BEYOND);
        }
    }

    private static void promise37() {
        BasinVotes x = with(THROWER);
        x.lies(9, 9, 9);
        x.basin(9, 9);
        x.as(0, LADY);
        x.undo();
        x.write(0, 0, 0);
        x.sheet(0, 0, -1);
        for (int i = 0; i < 7; i++) {
            x.person(BOY);
        }
        x.person(BOY);
        x.person(BOY);
        x.person(BOY);
        long[] want = {2, 3, 1, 1, 0, 1, 1};
        for (int which = 0; which <= 6; which++) {
            Due.is("37 status " + which, x.status(which), want[which]);
        }
        Due.is("37 all", x.status(-1), 9);
        Due.is("37 which 7", x.status(7), BEYOND);
        Due.is("37 counted from then on", x.status(0), 3);
        Due.is("37 which -2", x.status(-2), BEYOND);
        Due.is("37 all", x.status(-1), 11);
        for (int wild : WILD) {
            Due.is("37 which", x.status(wild), wild == -1 ? 13 : BEYOND);
        }
        x.image();
        x.undo();
        Due.is("37 undo takes none back", x.status(-1), 15);
    }
}
