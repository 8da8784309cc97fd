import java.util.ArrayList;
import java.util.Arrays;
import java.util.Comparator;
import java.util.List;
import java.util.TreeSet;
import java.util.function.Predicate;
import java.util.regex.Matcher;
import java.util.regex.Pattern;

/** The document once more, as plainly and slowly as can be, to hold the class against. */
public final class Model {
    private static final int NONE = -1;
    private static final int BAD = -2;
    private static final int OTHER = -3;
    private static final int NOTHING = -4;
    private static final int STUCK = -5;
    private static final int FULL = -6;

    private static final class Somebody {
        int kind;
        int a;
        int[] how = new int[8];
        boolean[] heardOf = new boolean[8];
        TreeSet<Integer> hears = new TreeSet<>();

        Somebody copyOf() {
            Somebody s = new Somebody();
            s.kind = kind;
            s.a = a;
            s.how = how.clone();
            s.heardOf = heardOf.clone();
            s.hears = new TreeSet<>(hears);
            return s;
        }
    }

    private static final class State {
        int sights = 4;
        int dusk = 0;
        int signs = 0;
        int lies = 0;
        int evenings = 0;
        int seed = 1;
        List<Somebody> all = new ArrayList<>();

        State copyOf() {
            State s = new State();
            s.sights = sights;
            s.dusk = dusk;
            s.signs = signs;
            s.lies = lies;
            s.evenings = evenings;
            s.seed = seed;
            for (Somebody p : all) {
                s.all.add(p.copyOf());
            }
            return s;
        }

        Somebody get(int p) {
            return all.get(p);
        }

        boolean isBarred(int p, int x) {
            return get(p).how[x] == 2 || get(p).how[x] == 1 && dusk == 1;
        }

        boolean isKnown(int p, int x) {
            return get(p).how[x] != 0 || get(p).heardOf[x];
        }

        boolean mayBe(int p, int x) {
            Somebody who = get(p);
            boolean plain = who.heardOf[x] && !isBarred(p, x);
            switch (who.kind) {
                case 1:
                    return plain && who.hears.stream().anyMatch(q -> get(q).heardOf[x] || get(q).how[x] == 2);
                case 2:
                    return !isBarred(p, x);
                case 3:
                    int ahead = 0;
                    for (int y = 0; y < x; y++) {
                        ahead += isBarred(p, y) ? 1 : 0;
                    }
                    return !isBarred(p, x) || ahead < lies;
                default:
                    return plain;
            }
        }

        int tellOf(int p, int x) {
            int anew = 0;
            for (Somebody q : all) {
                if (q.hears.contains(p)) {
                    anew += q.heardOf[x] ? 0 : 1;
                    q.heardOf[x] = true;
                }
            }
            return anew;
        }

        void pass() {
            State ahead = copyOf();
            for (int p = 0; p < all.size(); p++) {
                for (int x = 0; x < sights; x++) {
                    if (ahead.mayBe(p, x)) {
                        tellOf(p, x);
                    }
                }
            }
            int left = signs;
            for (int p = 0; p < all.size(); p++) {
                for (int q = 0; q < all.size(); q++) {
                    for (int x = 0; x < sights; x++) {
                        boolean can = get(q).hears.contains(p) && get(p).how[x] == 2 && !get(q).heardOf[x];
                        if (can && left > 0) {
                            get(q).heardOf[x] = true;
                            left--;
                        }
                    }
                }
            }
        }

        State behind(int n) {
            State s = copyOf();
            for (int k = 0; k < n; k++) {
                s.pass();
            }
            return s;
        }

        int knownTo(int p) {
            return Integer.bitCount(sightBits(x -> isKnown(p, x)));
        }

        int known() {
            int sum = 0;
            for (int p = 0; p < all.size(); p++) {
                sum += knownTo(p);
            }
            return sum;
        }

        int sightBits(Predicate<Integer> is) {
            return bits(sights, is);
        }

        int peopleBits(Predicate<Integer> is) {
            return bits(all.size(), is);
        }

        private static int bits(int n, Predicate<Integer> is) {
            int bits = 0;
            for (int i = 0; i < n; i++) {
                bits += is.test(i) ? 1 << i : 0;
            }
            return bits;
        }

        int mouths(int x) {
            return peopleBits(p -> mayBe(p, x));
        }

        int draw(int n) {
            seed = seed * 1103515245 + 12345;
            return (int) ((seed & 0xFFFFFFFFL) >> 16) % n;
        }

        int whose(String name) {
            return Arrays.asList("dusk", "signs", "lies").indexOf(name);
        }

        int setting(int what, int v) {
            int before = what == 0 ? dusk : what == 1 ? signs : lies;
            dusk = what == 0 ? v : dusk;
            signs = what == 1 ? v : signs;
            lies = what == 2 ? v : lies;
            return before;
        }
    }

    private State now = new State();
    private State kept = null;
    private final List<Integer> tape = new ArrayList<>();
    private final Object[] shelves = new Object[8];
    private final int[] sorts = new int[8];
    private final int[] refused = new int[7];

    private int no(int number) {
        refused[-number]++;
        return number;
    }

    private boolean person_(int p) {
        return p >= 0 && p < now.all.size();
    }

    private boolean sight_(int x) {
        return x >= 0 && x < now.sights;
    }

    private static boolean in(int v, int least, int most) {
        return v >= least && v <= most;
    }

    private long[] rowIn(int s) {
        return shelves[s] instanceof long[] ? (long[]) shelves[s] : null;
    }

    public int row(int s, int sort, int n) {
        if (!in(s, 0, 7) || !in(sort, 0, 4) || !in(n, 0, 40)) {
            return no(BAD);
        }
        shelves[s] = new long[n];
        sorts[s] = sort;
        return 1;
    }

    private int rowTrouble(int s) {
        if (!in(s, 0, 7)) {
            return BAD;
        }
        return shelves[s] == null ? NOTHING : rowIn(s) == null ? OTHER : 0;
    }

    public int set(int s, int i, long v) {
        if (rowTrouble(s) != 0) {
            return no(rowTrouble(s));
        }
        if (!in(i, 0, rowIn(s).length - 1)) {
            return no(BAD);
        }
        long[] kept = {(byte) v, (short) v, (int) v, v, v == 0 ? 0 : 1};
        rowIn(s)[i] = kept[sorts[s]];
        return 1;
    }

    public int copy(int p, int q, int i, int j, int n) {
        if (rowTrouble(p) == BAD || rowTrouble(q) == BAD) {
            return no(BAD);
        }
        if (rowTrouble(p) == OTHER || rowTrouble(q) == OTHER) {
            return no(OTHER);
        }
        if (rowTrouble(p) + rowTrouble(q) == 0 && sorts[p] != sorts[q]) {
            return no(OTHER);
        }
        if (rowTrouble(p) != 0 || rowTrouble(q) != 0) {
            return no(NOTHING);
        }
        if (i < 0 || j < 0 || n < 0 || (long) i + n > rowIn(p).length || (long) j + n > rowIn(q).length) {
            return no(BAD);
        }
        long[] as = rowIn(p).clone();
        for (int k = 0; k < n; k++) {
            rowIn(q)[j + k] = as[i + k];
        }
        return n;
    }

    public long element(int s, int i) {
        return rowTrouble(s) == 0 && in(i, 0, rowIn(s).length - 1) ? rowIn(s)[i] : 0;
    }

    public int holds(int s) {
        if (!in(s, 0, 7) || shelves[s] == null) {
            return NONE;
        }
        return rowIn(s) != null ? sorts[s] : 10 + (Integer) shelves[s];
    }

    public int show(int s, int one) {
        if (!in(s, 0, 7) || !person_(one) && one != NONE) {
            return no(BAD);
        }
        shelves[s] = one == NONE ? null : (Object) one;
        return 1;
    }

    private int firstBit(int bits) {
        return bits == 0 ? NONE : Integer.numberOfTrailingZeros(bits);
    }

    public int says(int s, int kind) {
        if (!in(s, 0, 7) || !in(kind, 0, 5)) {
            return no(BAD);
        }
        if (shelves[s] == null) {
            return no(NOTHING);
        }
        if (rowIn(s) != null) {
            return no(OTHER);
        }
        int p = (Integer) shelves[s];
        int[] under = {NONE, 0, 0, 2, 0, 0};
        int as = now.get(p).kind;
        while (as != NONE && as != kind) {
            as = under[as];
        }
        if (as == NONE) {
            return no(OTHER);
        }
        int barred = now.sightBits(x -> now.isBarred(p, x));
        int[] answers = {
            now.sightBits(x -> now.mayBe(p, x)),
            now.get(p).hears.size(),
            now.sights - Integer.bitCount(barred),
            firstBit(barred),
            Integer.bitCount(now.sightBits(x -> now.get(p).heardOf[x])),
            firstBit(now.sightBits(x -> now.get(p).how[x] == 2)),
        };
        return answers[kind];
    }

    public int sights(int n) {
        if (!in(n, now.sights, 8)) {
            return no(BAD);
        }
        int before = now.sights;
        now.sights = n;
        return before;
    }

    public int person(int kind, int a) {
        if (!in(kind, 0, 5) || !in(a, 0, 9)) {
            return no(BAD);
        }
        if (now.all.size() == 7) {
            return no(FULL);
        }
        Somebody s = new Somebody();
        s.kind = kind;
        s.a = a;
        now.all.add(s);
        return now.all.size() - 1;
    }

    public int see(int one, int sight, int how) {
        if (!person_(one) || !sight_(sight) || !in(how, 0, 2)) {
            return no(BAD);
        }
        if (now.get(one).kind == 4 && how != 0) {
            return no(STUCK);
        }
        int before = now.get(one).how[sight];
        now.get(one).how[sight] = how;
        return before;
    }

    public int hear(int one, int sight, boolean is) {
        if (!person_(one) || !sight_(sight)) {
            return no(BAD);
        }
        boolean before = now.get(one).heardOf[sight];
        now.get(one).heardOf[sight] = is;
        return before == is ? 0 : 1;
    }

    public int near(int one, int other, boolean is) {
        if (!person_(one) || !person_(other) || one == other) {
            return no(BAD);
        }
        TreeSet<Integer> hears = now.get(one).hears;
        return (is ? hears.add(other) : hears.remove(other)) ? 1 : 0;
    }

    public int ask(int what, int v) {
        if (!in(what, 0, 2) || !in(v, 0, what == 0 ? 1 : 9)) {
            return no(BAD);
        }
        return now.setting(what, v);
    }

    public int feed(int letter) {
        if (!in(letter, 0, 255)) {
            return no(BAD);
        }
        if (tape.size() == 250) {
            return no(FULL);
        }
        tape.add(letter);
        return tape.size();
    }

    public int wipe() {
        int before = tape.size();
        tape.clear();
        return before;
    }

    private List<String> words = new ArrayList<>();
    private List<Integer> places = new ArrayList<>();
    private int at = 0;

    private boolean number(int least, int most) {
        return words.get(at).matches("[0-9]{1,2}") && in(Integer.parseInt(words.get(at)), least, most);
    }

    private int value(int ahead) {
        return Integer.parseInt(words.get(at + ahead));
    }

    /** Whether a statement stands at "at", which is then behind it; else at what can't stand. */
    private boolean statement(State s) {
        String word = words.get(at);
        int most = s.all.size() - 1;
        if (!Arrays.asList("sights person saw half heard hears dusk signs lies".split(" ")).contains(word)) {
            return false;
        }
        if (word.equals("person") && most == 6) {
            return false;
        }
        at++;
        if (word.equals("sights")) {
            if (!number(s.sights, 8)) {
                return false;
            }
            s.sights = value(0);
            at++;
            return true;
        }
        if (s.whose(word) >= 0) {
            if (!number(0, word.equals("dusk") ? 1 : 9)) {
                return false;
            }
            s.setting(s.whose(word), value(0));
            at++;
            return true;
        }
        if (word.equals("person")) {
            return personStatement(s);
        }
        if (!number(0, most) || word.matches("saw|half") && s.get(value(0)).kind == 4) {
            return false;
        }
        int one = value(0);
        at++;
        if (!number(0, word.equals("hears") ? most : s.sights - 1)) {
            return false;
        }
        int two = value(0);
        if (word.equals("hears")) {
            if (one == two) {
                return false;
            }
            s.get(one).hears.add(two);
        } else if (word.equals("heard")) {
            s.get(one).heardOf[two] = true;
        } else {
            s.get(one).how[two] = word.equals("saw") ? 2 : 1;
        }
        at++;
        return true;
    }

    private boolean personStatement(State s) {
        int[] mosts = {5, 9};
        for (int most : mosts) {
            if (!number(0, most)) {
                return false;
            }
            at++;
        }
        Somebody who = new Somebody();
        who.kind = value(-2);
        who.a = value(-1);
        s.all.add(who);
        for (String word : new String[] {"saw", "heard"}) {
            if (words.get(at).equals(word)) {
                if (word.equals("saw") && who.kind == 4) {
                    return false;
                }
                at++;
                if (!number(0, s.sights - 1)) {
                    return false;
                }
                who.how[value(0)] = word.equals("saw") ? 2 : who.how[value(0)];
                who.heardOf[value(0)] |= word.equals("heard");
                at++;
            }
        }
        return true;
    }

    public int town() {
        StringBuilder text = new StringBuilder();
        for (int letter : tape) {
            text.append((char) letter);
        }
        tape.clear();
        words = new ArrayList<>();
        places = new ArrayList<>();
        at = 0;
        Matcher m = Pattern.compile("[a-z]+|[0-9]+|[^ ]", Pattern.DOTALL).matcher(text);
        while (m.find()) {
            words.add(m.group());
            places.add(m.start());
        }
        words.add("END");
        places.add(text.length());
        State s = now.copyOf();
        int count = 0;
        while (statement(s)) {
            count++;
            if (words.get(at).equals("END") && at == words.size() - 1) {
                now = s;
                return count;
            }
            if (!words.get(at).equals(";")) {
                break;
            }
            at++;
        }
        no(BAD);
        return -20 - places.get(at);
    }

    public int personOf(int one, int what) {
        if (!person_(one) || !in(what, 0, 7)) {
            return no(BAD);
        }
        Somebody p = now.get(one);
        switch (what) {
            case 0: return p.kind;
            case 1: return p.a;
            case 2: return now.sightBits(x -> p.how[x] == 2);
            case 3: return now.sightBits(x -> p.how[x] == 1);
            case 4: return now.sightBits(x -> p.heardOf[x]);
            case 5: return now.peopleBits(p.hears::contains);
            case 6: return now.sightBits(x -> now.isKnown(one, x));
            default: return now.sightBits(x -> now.isBarred(one, x));
        }
    }

    public int may(int one, int sight) {
        if (!person_(one) || !sight_(sight)) {
            return no(BAD);
        }
        return now.mayBe(one, sight) ? 1 : 0;
    }

    public int mouths(int sight) {
        return sight_(sight) ? now.mouths(sight) : no(BAD);
    }

    public int say(int one, int sight) {
        if (!person_(one) || !sight_(sight)) {
            return no(BAD);
        }
        return now.mayBe(one, sight) ? now.tellOf(one, sight) : no(STUCK);
    }

    public int sign(int one, int other, int sight) {
        if (!person_(one) || !person_(other) || !sight_(sight)) {
            return no(BAD);
        }
        if (now.get(one).how[sight] != 2 || !now.get(other).hears.contains(one)) {
            return no(STUCK);
        }
        boolean before = now.get(other).heardOf[sight];
        now.get(other).heardOf[sight] = true;
        return before ? 0 : 1;
    }

    public int known() {
        return now.known();
    }

    public int spread(int n, int one) {
        if (!in(n, 0, 20) || !person_(one)) {
            return no(BAD);
        }
        State s = now.behind(n);
        return s.sightBits(x -> s.get(one).heardOf[x]);
    }

    public int knownBy(int n) {
        return in(n, 0, 20) ? now.behind(n).known() : no(BAD);
    }

    private static List<String> heardIn(State s) {
        List<String> all = new ArrayList<>();
        for (Somebody p : s.all) {
            all.add(Arrays.toString(p.heardOf));
        }
        return all;
    }

    public int rounds() {
        int k = 0;
        while (k < 20 && !heardIn(now.behind(k)).equals(heardIn(now.behind(k + 1)))) {
            k++;
        }
        return k;
    }

    public int never(int sight) {
        if (!sight_(sight)) {
            return no(BAD);
        }
        State s = now.behind(20);
        return s.peopleBits(p -> !s.isKnown(p, sight));
    }

    public int when(int one, int sight) {
        if (!person_(one) || !sight_(sight)) {
            return no(BAD);
        }
        for (int k = 0; k <= 20; k++) {
            if (now.behind(k).isKnown(one, sight)) {
                return k;
            }
        }
        return NONE;
    }

    private static List<Integer> setsByFewest(int people) {
        List<Integer> sets = new ArrayList<>();
        for (int set = 0; set < 1 << people; set++) {
            sets.add(set);
        }
        sets.sort(Comparator.<Integer>comparingInt(Integer::bitCount).thenComparingInt(set -> set));
        return sets;
    }

    public int stop(int sight, int n) {
        if (!sight_(sight) || !in(n, 0, 20)) {
            return no(BAD);
        }
        for (int set : setsByFewest(now.all.size())) {
            State s = now.copyOf();
            boolean good = true;
            for (int p = 0; p < s.all.size(); p++) {
                if ((set >> p & 1) == 1) {
                    good = good && s.get(p).kind != 4;
                    s.get(p).how[sight] = 2;
                }
            }
            for (int k = 0; k <= n && good; k++) {
                good = s.mouths(sight) == 0;
                s.pass();
            }
            if (good) {
                return set;
            }
        }
        return NONE;
    }

    public int first(int sight, int n) {
        if (!sight_(sight) || !in(n, 0, 20)) {
            return no(BAD);
        }
        int best = NONE;
        int most = NONE;
        for (int p = 0; p < now.all.size(); p++) {
            State s = now.copyOf();
            s.get(p).heardOf[sight] = true;
            State then = s.behind(n);
            int count = Integer.bitCount(then.peopleBits(q -> then.isKnown(q, sight)));
            if (count > most) {
                most = count;
                best = p;
            }
        }
        return best == NONE ? no(STUCK) : best;
    }

    private int mostBehind;
    private List<Integer> bestOrder;

    private void orders(State s, List<Integer> order) {
        if (order.size() == s.all.size()) {
            if (s.known() > mostBehind) {
                mostBehind = s.known();
                bestOrder = new ArrayList<>(order);
            }
            return;
        }
        for (int p = 0; p < s.all.size(); p++) {
            if (!order.contains(p)) {
                State t = s.copyOf();
                for (int x = 0; x < s.sights; x++) {
                    if (s.mayBe(p, x)) {
                        t.tellOf(p, x);
                    }
                }
                order.add(p);
                orders(t, order);
                order.remove(order.size() - 1);
            }
        }
    }

    public int order(int i) {
        if (i != NONE && !person_(i)) {
            return no(BAD);
        }
        mostBehind = NONE;
        orders(now, new ArrayList<>());
        return i == NONE ? mostBehind : bestOrder.get(i);
    }

    public int worth(int one, int n) {
        if (!person_(one) || !in(n, 0, 20)) {
            return no(BAD);
        }
        State s = now.copyOf();
        s.get(one).hears.clear();
        for (Somebody p : s.all) {
            p.hears.remove(one);
        }
        State with = now.behind(n);
        State without = s.behind(n);
        return with.known() - with.knownTo(one) - (without.known() - without.knownTo(one));
    }

    public int chain(int one, int other, int sight) {
        if (!person_(one) || !person_(other) || !sight_(sight)) {
            return no(BAD);
        }
        int[] far = new int[7];
        Arrays.fill(far, 99);
        far[one] = 0;
        for (int k = 0; k < 7; k++) {
            for (int p = 0; p < now.all.size(); p++) {
                for (int q : now.get(p).hears) {
                    if (q == one || !now.isBarred(q, sight)) {
                        far[p] = Math.min(far[p], far[q] + 1);
                    }
                }
            }
        }
        return far[other] >= 99 ? NONE : far[other];
    }

    public int pairs() {
        int count = 0;
        for (int p = 0; p < now.all.size(); p++) {
            for (int q : now.get(p).hears) {
                count += q > p && now.get(q).hears.contains(p) ? 1 : 0;
            }
        }
        return count;
    }

    public int mouthsBy(int sight, int n) {
        return sight_(sight) && in(n, 0, 20) ? now.behind(n).mouths(sight) : no(BAD);
    }

    public int alone() {
        return now.peopleBits(p -> now.all.stream().noneMatch(q -> q.hears.contains(p)));
    }

    public int barred(int sight) {
        return sight_(sight) ? now.peopleBits(p -> now.isBarred(p, sight)) : no(BAD);
    }

    public int blind(int one, int n) {
        if (!person_(one) || !in(n, 0, 20)) {
            return -1000000 + no(BAD);
        }
        State s = now.copyOf();
        for (int x = 0; x < 8; x++) {
            s.get(one).heardOf[x] |= s.get(one).how[x] != 0;
            s.get(one).how[x] = 0;
        }
        s.get(one).kind = 4;
        return s.behind(n).known() - now.behind(n).known();
    }

    public int dusk(int n) {
        if (!in(n, 0, 20)) {
            return -1000000 + no(BAD);
        }
        State day = now.copyOf();
        State dark = now.copyOf();
        day.dusk = 0;
        dark.dusk = 1;
        return day.behind(n).known() - dark.behind(n).known();
    }

    public int loudest() {
        int best = NONE;
        int most = NONE;
        for (int p = 0; p < now.all.size(); p++) {
            int one = p;
            int count = Integer.bitCount(now.sightBits(x -> now.mayBe(one, x)));
            if (count > most) {
                most = count;
                best = p;
            }
        }
        return best == NONE ? no(STUCK) : best;
    }

    private boolean apart(int s, int n, int set) {
        TreeSet<Long> sets = new TreeSet<>();
        TreeSet<Long> answers = new TreeSet<>();
        for (int i = 0; i < n; i++) {
            sets.add(rowIn(s)[i] & (1 << now.all.size()) - 1);
            answers.add(rowIn(s)[i] & set);
        }
        return sets.size() == answers.size();
    }

    private int trouble(int s, int n, int least, int most, boolean good) {
        if (!good || !in(n, least, most) || !in(s, 0, 7)) {
            return BAD;
        }
        return rowTrouble(s) != 0 ? rowTrouble(s) : rowIn(s).length < n ? BAD : 0;
    }

    public int whom(int s, int n) {
        int t = trouble(s, n, 1, 10, true);
        if (t != 0) {
            return no(t);
        }
        return setsByFewest(now.all.size()).stream().filter(set -> apart(s, n, set)).findFirst().get();
    }

    public int parts(int s, int n, int set) {
        int t = trouble(s, n, 1, 10, set >= 0 && set < 1 << now.all.size());
        return t != 0 ? no(t) : apart(s, n, set) ? 1 : 0;
    }

    private boolean saying(long v) {
        return v >= 0 && v < 70 && person_((int) v / 10) && sight_((int) v % 10);
    }

    private boolean sayings(int s, int n) {
        return Arrays.stream(rowIn(s), 0, n).allMatch(this::saying);
    }

    private int run(State s, int shelf, int n) {
        for (int i = 0; i < n; i++) {
            long v = rowIn(shelf)[i];
            if (!saying(v) || !s.mayBe((int) v / 10, (int) v % 10)) {
                return i;
            }
            s.tellOf((int) v / 10, (int) v % 10);
        }
        return NONE;
    }

    public int judge(int s, int n) {
        int t = trouble(s, n, 0, 40, true);
        return t != 0 ? no(t) : run(now.copyOf(), s, n);
    }

    public int heard(int s, int n, int one) {
        int t = trouble(s, n, 0, 40, person_(one));
        if (t != 0) {
            return no(t);
        }
        State then = now.copyOf();
        return run(then, s, n) != NONE ? no(STUCK) : then.sightBits(x -> then.get(one).heardOf[x]);
    }

    public int falsely(int s, int n) {
        int t = trouble(s, n, 0, 40, true);
        if (t != 0 || !sayings(s, n)) {
            return no(t != 0 ? t : BAD);
        }
        return (int) Arrays.stream(rowIn(s), 0, n).filter(v -> now.isBarred((int) v / 10, (int) v % 10)).count();
    }

    private boolean silent(int q, int s, int n, int sight) {
        int first = NONE;
        int last = NONE;
        for (int i = n - 1; i >= 0; i--) {
            int v = (int) rowIn(s)[i];
            if (v % 10 == sight && now.get(q).hears.contains(v / 10)) {
                first = i;
            }
            if (v % 10 == sight && v / 10 == q && last == NONE) {
                last = i;
            }
        }
        return first != NONE && last < first;
    }

    public int surely(int s, int n, int sight) {
        int t = trouble(s, n, 0, 40, sight_(sight));
        if (t != 0 || !sayings(s, n)) {
            return no(t != 0 ? t : BAD);
        }
        return now.peopleBits(q -> silent(q, s, n, sight) && now.isBarred(q, sight));
    }

    public int free(int s, int n, int sight) {
        int t = trouble(s, n, 0, 40, sight_(sight));
        if (t != 0 || !sayings(s, n)) {
            return no(t != 0 ? t : BAD);
        }
        State end = now.copyOf();
        for (int i = 0; i < n; i++) {
            end.tellOf((int) rowIn(s)[i] / 10, (int) rowIn(s)[i] % 10);
        }
        return now.peopleBits(q -> silent(q, s, n, sight) && !now.isBarred(q, sight) && end.mayBe(q, sight));
    }

    public int evening(int s, int n) {
        int t = trouble(s, n, 0, 40, true);
        if (t != 0) {
            return no(t);
        }
        State then = now.copyOf();
        if (run(then, s, n) != NONE) {
            return no(STUCK);
        }
        now = then;
        return now.known();
    }

    public int talk(int n) {
        if (!in(n, 1, 40)) {
            return no(BAD);
        }
        if (now.all.isEmpty()) {
            return no(STUCK);
        }
        int said = 0;
        for (int k = 0; k < n; k++) {
            int p = now.draw(now.all.size());
            int x = now.draw(now.sights);
            if (now.mayBe(p, x)) {
                now.tellOf(p, x);
                said++;
            }
        }
        return said;
    }

    public int round() {
        now.pass();
        return now.known();
    }

    public int night() {
        for (Somebody p : now.all) {
            for (int x = 0; x < now.sights && p.kind == 5; x++) {
                if (p.how[x] == 2) {
                    p.how[x] = 0;
                    p.heardOf[x] = true;
                    break;
                }
            }
        }
        return ++now.evenings;
    }

    public int seed(int v) {
        int before = now.seed;
        now.seed = v;
        return before;
    }

    public int image() {
        kept = now.copyOf();
        return 1;
    }

    public int back() {
        if (kept == null) {
            return no(STUCK);
        }
        now = kept.copyOf();
        for (int s = 0; s < 8; s++) {
            if (shelves[s] instanceof Integer && !person_((Integer) shelves[s])) {
                shelves[s] = null;
            }
        }
        return 1;
    }

    public int status(int what) {
        int filled = 0;
        for (Object o : shelves) {
            filled += o == null ? 0 : 1;
        }
        int[] answers = {
            now.sights, now.all.size(), now.dusk, now.signs, now.lies, now.evenings, tape.size(), now.seed,
            filled, known(), pairs(), NONE, refused[2], refused[3], refused[4], refused[5], refused[6],
        };
        return in(what, 0, 16) ? answers[what] : NONE;
    }
}
