import java.util.ArrayList;
import java.util.List;
import java.util.function.IntFunction;
import java.util.function.Supplier;

/** Tries one call in a scene: what it answers, what is counted then, and whether anything else changes. */
final class Trial {
    interface Call {
        long of(OnlyUnseen x);
    }

    private static final int BAD = -2;
    private static final int FIRST_REFUSALS = 12;
    private static final int LAST_REFUSALS = 16;
    private final Check check;
    private final Supplier<OnlyUnseen> scene;

    Trial(Check check, Supplier<OnlyUnseen> scene) {
        this.check = check;
        this.scene = scene;
    }

    /** The call answers the number, one refusal more is counted, and all else is as without the call. */
    void refused(String name, long want, Call call) {
        long number = want <= -1000000 ? want + 1000000 : want;
        List<Long> counts = refusals(scene.get());
        int at = (int) (BAD - number);
        counts.set(at, counts.get(at) + 1);
        OnlyUnseen x = scene.get();
        check.due(name, call.of(x), want);
        same(name + ": refusals", refusals(x), counts);
        same(name + ": all else", told(x), told(scene.get()));
    }

    /** The call answers so, and no refusal is counted. */
    void answers(String name, long want, Call call) {
        OnlyUnseen x = scene.get();
        check.due(name, call.of(x), want);
        same(name + ": refusals", refusals(x), refusals(scene.get()));
    }

    /** The call answers so, no refusal is counted, and all is as without the call. */
    void changesNothing(String name, long want, Call call) {
        answers(name, want, call);
        OnlyUnseen x = scene.get();
        call.of(x);
        same(name + ": all", told(x), told(scene.get()));
    }

    /** A number from least to most is not BAD; one below, one beyond and the farthest are. */
    void bounds(String name, int least, int most, IntFunction<Call> calls) {
        bounds(name, least, most, BAD, calls);
    }

    void bounds(String name, int least, int most, long bad, IntFunction<Call> calls) {
        for (int v : new int[] {Integer.MIN_VALUE, least - 1, most + 1, Integer.MAX_VALUE}) {
            refused(name + " " + v, bad, calls.apply(v));
        }
        for (int v = least; v <= most; v++) {
            OnlyUnseen x = scene.get();
            long badAhead = x.status(FIRST_REFUSALS);
            if (calls.apply(v).of(x) == bad) {
                check.fail(name + " " + v + " answered " + bad);
            }
            check.due(name + " " + v + ": how many are BAD", x.status(FIRST_REFUSALS), badAhead);
        }
    }

    void same(String name, List<Long> got, List<Long> want) {
        check.due(name + ": as many", got.size(), want.size());
        for (int i = 0; i < Math.min(got.size(), want.size()); i++) {
            if (!got.get(i).equals(want.get(i))) {
                check.fail(name + ": of " + i + " is told " + got.get(i) + ", due is " + want.get(i));
            }
        }
    }

    static List<Long> refusals(OnlyUnseen x) {
        List<Long> all = new ArrayList<>();
        for (int what = FIRST_REFUSALS; what <= LAST_REFUSALS; what++) {
            all.add((long) x.status(what));
        }
        return all;
    }

    /** All that can be told of an object but its refusals; it's read to its end by that, tape and what is kept, too. */
    static List<Long> told(OnlyUnseen x) {
        List<Long> all = new ArrayList<>();
        tellNow(x, all);
        tellShelves(x, all);
        all.add((long) x.town());
        all.add((long) x.status(2));
        all.add((long) x.back());
        tellNow(x, all);
        return all;
    }

    private static void tellNow(OnlyUnseen x, List<Long> all) {
        for (int what = 0; what <= 10; what++) {
            all.add((long) x.status(what));
        }
        for (int one = 0; one < x.status(1); one++) {
            for (int what = 0; what < 8; what++) {
                all.add((long) x.personOf(one, what));
            }
        }
    }

    private static void tellShelves(OnlyUnseen x, List<Long> all) {
        for (int s = 0; s < 8; s++) {
            all.add((long) x.holds(s));
            boolean isRow = x.holds(s) >= 0 && x.holds(s) < 10;
            for (int i = 0; isRow && i < (s == 1 ? 40 : 4); i++) {
                all.add(x.element(s, i));
            }
        }
    }

    /**
     * Six PEOPLE, one of each KIND, and 5 SIGHTS. SHELVES: 0 three ints, an EVENING that may be; 1 forty bytes, each a
     * SAYING that MAY not be; 2 and 6 somebody; 3 NOTHING; 4 two longs, no SAYINGS; 5 a boolean; 7 two shorts, a SAYING
     * and one of nobody there. THE TAPE is a TOWN, and a town that was otherwise is kept.
     */
    static OnlyUnseen square() {
        OnlyUnseen x = new OnlyUnseen();
        x.sights(5);
        for (int kind = 0; kind < 6; kind++) {
            x.person(kind, 9 - kind);
        }
        int[][] near = {{1, 0}, {0, 1}, {2, 0}, {3, 2}, {4, 3}, {5, 4}};
        for (int[] pair : near) {
            x.near(pair[0], pair[1], true);
        }
        int[][] seen = {{0, 0, 2}, {0, 3, 1}, {2, 2, 2}, {3, 3, 2}, {5, 1, 2}, {5, 4, 2}, {5, 0, 1}};
        for (int[] see : seen) {
            x.see(see[0], see[1], see[2]);
        }
        x.image();
        int[][] heard = {{0, 1}, {1, 2}, {3, 0}, {4, 2}, {5, 3}};
        for (int[] hear : heard) {
            x.hear(hear[0], hear[1], true);
        }
        x.ask(1, 1);
        x.ask(2, 1);
        x.seed(77);
        x.night();
        fillShelves(x);
        for (char letter : "dusk 1".toCharArray()) {
            x.feed(letter);
        }
        return x;
    }

    private static void fillShelves(OnlyUnseen x) {
        Check.withRow(x, 1, 20, 23);
        x.row(1, 0, 40);
        x.show(2, 0);
        x.row(4, 3, 2);
        x.set(4, 0, 1L << 32);
        x.set(4, 1, -1);
        x.row(5, 4, 1);
        x.set(5, 0, 1);
        x.show(6, 5);
        x.row(7, 1, 2);
        x.set(7, 0, 1);
        x.set(7, 1, 60);
    }

    /** Nobody and nothing kept; SHELF 0 holds a ROW of three ints. */
    static OnlyUnseen empty() {
        return Check.withRow(new OnlyUnseen(), 0, 0, 0);
    }

    /** Seven PEOPLE, 8 SIGHTS and 250 bytes, as many as may be. */
    static OnlyUnseen full() {
        OnlyUnseen x = new OnlyUnseen();
        x.sights(8);
        for (int p = 0; p < 7; p++) {
            x.person(2, 0);
        }
        for (int i = 0; i < 250; i++) {
            x.feed(' ');
        }
        return x;
    }
}
