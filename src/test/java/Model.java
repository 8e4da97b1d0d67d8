import java.util.ArrayList;
import java.util.HashMap;
import java.util.List;
import java.util.Map;
import java.util.regex.Matcher;
import java.util.regex.Pattern;

/** The document a second time, written plainly and without a thought of room or speed, to hold BasinVotes against. */
final class Model {
    static final String[] FINDINGS = {"BEYOND", "FULL", "KIND", "NONE", "STATE", "MISSING", "SIZE"};

    static final class Finding extends RuntimeException {
        private static final long serialVersionUID = 1L;
        final int which;

        Finding(String name) {
            super(name, null, false, false);
            which = List.of(FINDINGS).indexOf(name);
        }
    }

    static class Thrower {
        int leans = 0;
        int pence = 20;
        boolean away = false;

        int side(State s, int q) {
            return (leans & (1 << q)) != 0 ? 0 : 1;
        }

        int coins() {
            return 1;
        }

        int dives(int l, int r) {
            return 0;
        }

        int earns() {
            return 2;
        }
    }

    static class Lady extends Thrower {
        @Override
        int side(State s, int q) {
            int hers = super.side(s, q);
            return s.lying[q][hers] > s.lying[q][1 - hers] + 20 ? 1 - hers : hers;
        }

        @Override
        int coins() {
            return super.coins() + pence / 20;
        }

        @Override
        int earns() {
            return super.earns() + 1;
        }
    }

    static class Boy extends Thrower {
        @Override
        int side(State s, int q) {
            return s.lying[q][1] < s.lying[q][0] ? 1 : 0;
        }

        @Override
        int coins() {
            return 0;
        }

        @Override
        int dives(int l, int r) {
            return 2;
        }

        @Override
        int earns() {
            return 0;
        }
    }

    static final class Stranger extends Thrower {
        @Override
        int side(State s, int q) {
            return s.day % 2;
        }

        @Override
        int coins() {
            return 3;
        }

        @Override
        int earns() {
            return super.earns() + 2;
        }
    }

    static final class Agent extends Lady {
        @Override
        int side(State s, int q) {
            return s.bribe;
        }

        @Override
        int coins() {
            return super.coins() * 2;
        }

        @Override
        int earns() {
            return super.earns() - 3;
        }
    }

    static final class Diver extends Boy {
        @Override
        int dives(int l, int r) {
            return super.dives(l, r) + (l + r) / 10;
        }
    }

    static final List<Class<? extends Thrower>> KINDS =
        List.of(Thrower.class, Lady.class, Boy.class, Stranger.class, Agent.class, Diver.class);
    static final List<String> NAMES = List.of("thrower", "lady", "boy", "stranger", "agent", "diver");

    static Thrower make(int kind, Thrower like) {
        Thrower made = switch (kind) {
            case 0 -> new Thrower();
            case 1 -> new Lady();
            case 2 -> new Boy();
            case 3 -> new Stranger();
            case 4 -> new Agent();
            default -> new Diver();
        };
        if (like != null) {
            made.leans = like.leans;
            made.pence = like.pence;
            made.away = like.away;
        }
        return made;
    }

    static int kindOf(Thrower t) {
        return KINDS.indexOf(t.getClass());
    }

    static final class State {
        int day = 0;
        int bribe = 0;
        final int[][] lying = new int[6][2];
        final boolean[] left = new boolean[6];
        final List<Thrower> people = new ArrayList<>();

        State twin() {
            State s = new State();
            s.day = day;
            s.bribe = bribe;
            for (int q = 0; q < 6; q++) {
                s.lying[q] = lying[q].clone();
                s.left[q] = left[q];
            }
            for (Thrower t : people) {
                s.people.add(make(kindOf(t), t));
            }
            return s;
        }

        int throwsOf(Thrower t) {
            return t.coins() > t.pence ? t.pence : t.coins();
        }

        int divesOf(Thrower t, int q) {
            int more = lying[q][0] >= lying[q][1] ? lying[q][0] : lying[q][1];
            int wants = t.dives(lying[q][0], lying[q][1]);
            return wants > more ? more : wants;
        }

        State ahead(int n) {
            State s = twin();
            for (int i = 0; i < n; i++) {
                s.oneDay();
            }
            return s;
        }

        void oneDay() {
            int q = day % 6;
            int[] here = lying[q];
            for (Thrower t : people) {
                if (t.away) {
                    continue;
                }
                t.pence += t.earns();
                if (t.pence > 9999) {
                    t.pence = 9999;
                }
                int coins = throwsOf(t);
                int side = t.side(this, q);
                t.pence -= coins;
                here[side] += coins;
                if (here[side] > 9999) {
                    here[side] = 9999;
                }
                int takes = divesOf(t, q);
                here[here[0] >= here[1] ? 0 : 1] -= takes;
                t.pence += takes;
                if (t.pence > 9999) {
                    t.pence = 9999;
                }
            }
            if (here[0] != here[1]) {
                left[q] = here[0] > here[1];
            }
            here[0] = here[0] / 2;
            here[1] = here[1] / 2;
            day++;
        }

        int held() {
            int set = 0;
            for (int q = 0; q < 6; q++) {
                set += left[q] ? 1 << q : 0;
            }
            return set;
        }

        int tell(int q, int what) {
            return what == 2 ? (left[q] ? 1 : 0) : lying[q][what];
        }

        int sum(int side) {
            int all = 0;
            for (int[] here : lying) {
                all += here[side];
            }
            return all;
        }
    }

    private State now = new State();
    private State kept = null;
    private StringBuilder tape = new StringBuilder();
    private final Map<Integer, long[]> sheets = new HashMap<>();
    private final Map<Integer, Integer> bits = new HashMap<>();
    private final int[] status = new int[7];

    /** Answers any call by its name; the arguments are its own, in order. */
    long answer(String call, long... a) {
        try {
            return act(call, a);
        } catch (Finding f) {
            status[f.which]++;
            return -1000000001L - f.which;
        }
    }

    private long act(String call, long[] a) {
        int[] i = new int[a.length];
        for (int k = 0; k < a.length; k++) {
            i[k] = (int) a[k];
        }
        switch (call) {
            case "lies": case "basin": case "bribe": case "held": case "now":
                return theBasin(call, i);
            case "person": case "of": case "acts": case "set": case "turn": case "as":
                return thePeople(call, i);
            case "days": case "on": case "then": case "flips": case "rich":
                return theDays(call, i);
            case "kind": case "lean": case "buys": case "swing": case "pays": case "richest":
                return theBest(call, i);
            case "feed": case "wipe": case "town":
                return theText(call, i);
            case "sheet": case "write": case "copy": case "lays": case "book": case "read":
                return theSheets(call, i, a);
            default:
                return theImages(call, i);
        }
    }

    private static void within(int v, int least, int most) {
        if (v < least || v > most) {
            throw new Finding("BEYOND");
        }
    }

    private Thrower one(int person) {
        within(person, 0, now.people.size() - 1);
        return now.people.get(person);
    }

    private long theBasin(String call, int[] a) {
        int was;
        switch (call) {
            case "lies":
                within(a[0], 0, 5);
                within(a[1], 0, 1);
                within(a[2], 0, 9999);
                was = now.lying[a[0]][a[1]];
                now.lying[a[0]][a[1]] = a[2];
                return was;
            case "basin":
                within(a[0], 0, 5);
                within(a[1], 0, 2);
                return now.tell(a[0], a[1]);
            case "bribe":
                within(a[0], 0, 1);
                was = now.bribe;
                now.bribe = a[0];
                return was;
            case "held":
                within(a[0], 0, 63);
                was = now.held();
                for (int q = 0; q < 6; q++) {
                    now.left[q] = (a[0] >> q) % 2 == 1;
                }
                return was;
            default:
                within(a[0], 0, 6);
                return tellNow(a[0]);
        }
    }

    private long tellNow(int what) {
        int set = 0;
        int pence = 0;
        for (int p = 0; p < now.people.size(); p++) {
            Thrower t = now.people.get(p);
            pence += t.pence;
            if (!t.away && t.side(now, now.day % 6) == 0) {
                set += 1 << p;
            }
        }
        int[] all = {now.day, now.day % 6, now.held(), now.bribe, set, pence, now.sum(0) + now.sum(1)};
        return all[what];
    }

    private long thePeople(String call, int[] a) {
        switch (call) {
            case "person":
                within(a[0], 0, 5);
                if (now.people.size() == 8) {
                    throw new Finding("FULL");
                }
                now.people.add(make(a[0], null));
                return now.people.size() - 1;
            case "of": {
                Thrower t = one(a[0]);
                within(a[1], 0, 5);
                int[] all = {kindOf(t), t.leans, t.pence, t.away ? 1 : 0, now.throwsOf(t), t.earns()};
                return all[a[1]];
            }
            case "acts": {
                Thrower t = one(a[0]);
                within(a[1], 0, 5);
                within(a[2], 0, 1);
                return a[2] == 0 ? t.side(now, a[1]) : now.divesOf(t, a[1]);
            }
            case "set":
                return change(one(a[0]), a[1], a[2]);
            case "turn": {
                Thrower t = one(a[0]);
                within(a[1], 0, 5);
                now.people.set(a[0], make(a[1], t));
                return kindOf(t);
            }
            default: {
                Thrower t = one(a[0]);
                within(a[1], 0, 5);
                if (!KINDS.get(a[1]).isInstance(t)) {
                    throw new Finding("KIND");
                }
                return t.pence;
            }
        }
    }

    private static int change(Thrower t, int what, int v) {
        int[] most = {0, 63, 9999, 1};
        within(what, 1, 3);
        within(v, 0, most[what]);
        int was;
        if (what == 1) {
            was = t.leans;
            t.leans = v;
        } else if (what == 2) {
            was = t.pence;
            t.pence = v;
        } else {
            was = t.away ? 1 : 0;
            t.away = v == 1;
        }
        return was;
    }

    private long theDays(String call, int[] a) {
        switch (call) {
            case "days":
                within(a[0], 1, 100);
                if (now.day + a[0] > 99999) {
                    throw new Finding("STATE");
                }
                now = now.ahead(a[0]);
                return now.held();
            case "on":
                one(a[0]);
                within(a[1], 0, 200);
                return now.ahead(a[1]).people.get(a[0]).pence;
            case "then":
                within(a[0], 0, 5);
                within(a[1], 0, 200);
                within(a[2], 0, 2);
                return now.ahead(a[1]).tell(a[0], a[2]);
            case "flips": {
                within(a[0], 0, 5);
                State s = now;
                for (int n = 1; n <= 200; n++) {
                    s = s.ahead(1);
                    if (s.left[a[0]] != now.left[a[0]]) {
                        return n;
                    }
                }
                throw new Finding("NONE");
            }
            default: {
                one(a[0]);
                within(a[1], 0, 9999);
                State s = now;
                for (int n = 0; n <= 200; n++) {
                    if (s.people.get(a[0]).pence >= a[1]) {
                        return n;
                    }
                    s = s.ahead(1);
                }
                throw new Finding("NONE");
            }
        }
    }

    private static int firstOfMost(List<Integer> values) {
        int best = 0;
        for (int v : values) {
            best = Math.max(best, v);
        }
        return values.indexOf(best);
    }

    private long theBest(String call, int[] a) {
        List<Integer> values = new ArrayList<>();
        switch (call) {
            case "kind":
                one(a[0]);
                within(a[1], 1, 60);
                for (int k = 0; k < 6; k++) {
                    State s = now.twin();
                    s.people.set(a[0], make(k, s.people.get(a[0])));
                    values.add(s.ahead(a[1]).people.get(a[0]).pence);
                }
                return firstOfMost(values);
            case "lean":
                one(a[0]);
                within(a[1], 1, 40);
                for (int set = 0; set < 64; set++) {
                    State s = now.twin();
                    s.people.get(a[0]).leans = set;
                    values.add(unlike(s.ahead(a[1]), now));
                }
                return firstOfMost(values);
            case "buys":
                one(a[0]);
                within(a[1], 0, 5);
                within(a[2], 1, 60);
                for (int v = 0; v <= 1000; v += 10) {
                    State s = now.twin();
                    s.people.get(a[0]).pence = v;
                    if (s.ahead(a[2]).left[a[1]] != now.left[a[1]]) {
                        return v;
                    }
                }
                throw new Finding("NONE");
            case "swing":
                within(a[0], 1, 60);
                for (int p = 0; p < now.people.size(); p++) {
                    State s = now.twin();
                    s.people.get(p).away = true;
                    values.add(unlike(s.ahead(a[0]), now.ahead(a[0])));
                }
                if (values.stream().noneMatch(v -> v > 0)) {
                    throw new Finding("NONE");
                }
                return firstOfMost(values);
            case "pays":
                within(a[0], 1, 60);
                for (int side = 0; side < 2; side++) {
                    State s = now.twin();
                    s.bribe = side;
                    values.add(unlike(s.ahead(a[0]), new State()));
                }
                return firstOfMost(values);
            default:
                within(a[0], 0, 200);
                if (now.people.isEmpty()) {
                    throw new Finding("NONE");
                }
                for (Thrower t : now.ahead(a[0]).people) {
                    values.add(t.pence);
                }
                return firstOfMost(values);
        }
    }

    private static int unlike(State a, State b) {
        int n = 0;
        for (int q = 0; q < 6; q++) {
            n += a.left[q] != b.left[q] ? 1 : 0;
        }
        return n;
    }

    private long theText(String call, int[] a) {
        switch (call) {
            case "feed":
                within(a[1], 1, 4);
                if (tape.length() + a[1] > 120) {
                    throw new Finding("FULL");
                }
                for (int k = a[1]; k > 0; k--) {
                    tape.append((char) (a[0] >>> (8 * (k - 1)) & 0xFF));
                }
                return tape.length();
            case "wipe": {
                int was = tape.length();
                tape = new StringBuilder();
                return was;
            }
            default: {
                String text = tape.toString();
                tape = new StringBuilder();
                return new Text(text).into();
            }
        }
    }

    /** The text as a list of tokens, each with its place; the last one is the end. */
    private final class Text {
        private final List<String> tokens = new ArrayList<>();
        private final List<Integer> places = new ArrayList<>();
        private final State s = now.twin();
        private int at = 0;

        Text(String text) {
            Matcher m = Pattern.compile("[a-z]+|[0-9]+|[^ ]", Pattern.DOTALL).matcher(text);
            while (m.find()) {
                tokens.add(m.group());
                places.add(m.start());
            }
            tokens.add("");
            places.add(text.length());
        }

        long into() {
            int items = 0;
            boolean more = true;
            while (more) {
                if (!item()) {
                    return -1 - places.get(at);
                }
                items++;
                more = took(";");
            }
            if (!tokens.get(at).isEmpty()) {
                return -1 - places.get(at);
            }
            now = s;
            return items;
        }

        private boolean took(String token) {
            if (tokens.get(at).equals(token)) {
                at++;
                return true;
            }
            return false;
        }

        private int number(int most) {
            String token = tokens.get(at);
            if (!token.matches("[0-9]+") || new java.math.BigInteger(token).compareTo(java.math.BigInteger.valueOf(most)) > 0) {
                return -1;
            }
            at++;
            return Integer.parseInt(token);
        }

        private boolean item() {
            String first = tokens.get(at);
            if (NAMES.contains(first)) {
                return s.people.size() < 8 && person(NAMES.indexOf(first));
            }
            if (took("left") || took("right")) {
                int q = number(5);
                int v = q < 0 ? -1 : number(9999);
                if (v >= 0) {
                    s.lying[q][first.equals("left") ? 0 : 1] = v;
                }
                return v >= 0;
            }
            if (took("bribe")) {
                s.bribe = tokens.get(at).equals("right") ? 1 : 0;
                return took("left") || took("right");
            }
            if (took("away")) {
                int who = number(s.people.size() - 1);
                if (who >= 0) {
                    s.people.get(who).away = true;
                }
                return who >= 0;
            }
            return false;
        }

        private boolean person(int kind) {
            Thrower t = make(kind, null);
            s.people.add(t);
            at++;
            if (took("leans")) {
                t.leans = number(63);
                if (t.leans < 0) {
                    return false;
                }
            }
            if (took("pence")) {
                t.pence = number(9999);
                return t.pence >= 0;
            }
            return true;
        }
    }

    private long[] sheet(int s) {
        within(s, 0, 3);
        if (!sheets.containsKey(s)) {
            throw new Finding("MISSING");
        }
        return sheets.get(s);
    }

    private void put(int s, int i, long v) {
        int unused = 64 - bits.get(s);
        sheets.get(s)[i] = v << unused >> unused;
    }

    private long theSheets(String call, int[] a, long[] whole) {
        switch (call) {
            case "sheet":
                within(a[0], 0, 3);
                if (!List.of(0, 8, 16, 64).contains(a[1])) {
                    throw new Finding("BEYOND");
                }
                if (a[2] < 0) {
                    throw new Finding("SIZE");
                }
                within(a[2], 0, 40);
                sheets.remove(a[0]);
                if (a[1] == 0) {
                    return 0;
                }
                sheets.put(a[0], new long[a[2]]);
                bits.put(a[0], a[1]);
                return a[2];
            case "write": {
                long[] numbers = sheet(a[0]);
                within(a[1], 0, numbers.length - 1);
                long was = numbers[a[1]];
                put(a[0], a[1], whole[2]);
                return was;
            }
            case "copy":
                return copied(a[0], a[1], a[2], a[3], a[4]);
            case "lays": {
                long[] numbers = sheet(a[0]);
                int came = 0;
                for (int p = 0; p < numbers.length; p++) {
                    if (p < now.people.size() && numbers[p] >= 0 && numbers[p] <= 9999) {
                        now.people.get(p).pence = (int) numbers[p];
                        came++;
                    }
                }
                return came;
            }
            case "book": {
                long[] numbers = sheet(a[0]);
                one(a[1]);
                for (int n = 0; n < numbers.length; n++) {
                    put(a[0], n, now.ahead(n).people.get(a[1]).pence);
                }
                return numbers.length;
            }
            default:
                sheet(a[0]);
                one(a[1]);
                one(a[2]);
                if (a[1] == a[2]) {
                    throw new Finding("BEYOND");
                }
                return pairs(sheet(a[0]), a[1], a[2]);
        }
    }

    private long copied(int s, int from, int t, int to, int n) {
        within(s, 0, 3);
        within(t, 0, 3);
        long[] source = sheet(s).clone();
        long[] target = sheet(t);
        if (!bits.get(s).equals(bits.get(t))) {
            throw new Finding("KIND");
        }
        if (from < 0 || to < 0 || n < 0 || (long) from + n > source.length || (long) to + n > target.length) {
            throw new Finding("BEYOND");
        }
        for (int k = 0; k < n; k++) {
            target[to + k] = source[from + k];
        }
        return n;
    }

    private int pairs(long[] numbers, int person, int other) {
        int pairs = 0;
        for (int pair = 0; pair < 36; pair++) {
            State s = now.twin();
            s.people.set(person, make(pair % 6, s.people.get(person)));
            s.people.set(other, make(pair / 6, s.people.get(other)));
            boolean so = true;
            for (int n = 0; n < numbers.length && so; n++) {
                so = s.people.get(person).pence == numbers[n];
                s = s.ahead(1);
            }
            pairs += so ? 1 : 0;
        }
        return pairs;
    }

    private long theImages(String call, int[] a) {
        switch (call) {
            case "image":
                kept = now.twin();
                return 1;
            case "undo":
                if (kept == null) {
                    throw new Finding("NONE");
                }
                now = kept.twin();
                return now.people.size();
            case "tear": {
                int was = kept == null ? 0 : 1;
                kept = null;
                return was;
            }
            case "count": {
                within(a[0], 0, 3);
                int[] all = {now.people.size(), tape.length(), now.sum(0), now.sum(1)};
                return all[a[0]];
            }
            case "status": {
                within(a[0], -1, 6);
                int all = 0;
                for (int n : status) {
                    all += n;
                }
                return a[0] == -1 ? all : status[a[0]];
            }
            default:
                throw new IllegalStateException(call);
        }
    }
}
