/**
 * Promises 2 to 55: for each call the least and the most that may be of each number, one below and one beyond, and each
 * refusal in the order of the document: its number, that it is counted, and that nothing else changes by it.
 */
public final class RefusalsTest {
    private static final int STATUS_FULL = -6;
    private static final int STUCK = -5;
    private static final int NOTHING = -4;
    private static final int OTHER = -3;
    private static final int BAD = -2;
    private static final int BAD_BELOW_NOUGHT = -1000002;
    private static final int FAR = Integer.MAX_VALUE;
    private static final int FAR_BELOW = Integer.MIN_VALUE;

    private static final Check check = new Check();
    private static final Trial square = new Trial(check, Trial::square);
    private static final Trial empty = new Trial(check, Trial::empty);
    private static final Trial full = new Trial(check, Trial::full);

    private interface RowCall {
        long of(OnlyUnseen x, int s, int n);
    }

    private static void promise2Row() {
        square.bounds("row: SHELF", 0, 7, s -> x -> x.row(s, 1, 3));
        square.bounds("row: SORT", 0, 4, sort -> x -> x.row(3, sort, 3));
        square.bounds("row: n", 0, 40, n -> x -> x.row(3, 1, n));
    }

    private static void promise3Set() {
        square.bounds("set: SHELF", 0, 7, s -> x -> x.set(s, 0, 1));
        square.refused("set: no SHELF ahead of i", BAD, x -> x.set(8, 99, 1));
        square.refused("set: somebody", OTHER, x -> x.set(2, 0, 1));
        square.refused("set: somebody ahead of i", OTHER, x -> x.set(6, 99, 1));
        square.refused("set: NOTHING", NOTHING, x -> x.set(3, 0, 1));
        square.refused("set: NOTHING ahead of i", NOTHING, x -> x.set(3, -1, 1));
        square.bounds("set: i of three", 0, 2, i -> x -> x.set(0, i, 1));
        square.bounds("set: i of forty", 0, 39, i -> x -> x.set(1, i, 1));
        Trial none = new Trial(check, () -> emptyRow());
        none.refused("set: i of none", BAD, x -> x.set(0, 0, 1));
    }

    private static OnlyUnseen emptyRow() {
        OnlyUnseen x = new OnlyUnseen();
        x.person(0, 0);
        x.row(0, 0, 0);
        return x;
    }

    private static void promise4Copy() {
        square.bounds("copy: SHELF from", 0, 7, p -> x -> x.copy(p, 0, 0, 0, 0));
        square.bounds("copy: SHELF to", 0, 7, q -> x -> x.copy(0, q, 0, 0, 0));
        square.refused("copy: no SHELF ahead of somebody", BAD, x -> x.copy(8, 2, 0, 0, 0));
        square.refused("copy: somebody ahead of no SHELF", BAD, x -> x.copy(2, 8, 0, 0, 0));
        square.refused("copy: from somebody", OTHER, x -> x.copy(2, 0, 0, 0, 0));
        square.refused("copy: to somebody", OTHER, x -> x.copy(0, 2, 0, 0, 0));
        square.refused("copy: from somebody of another number", OTHER, x -> x.copy(6, 0, 0, 0, 0));
        square.refused("copy: to somebody of another number", OTHER, x -> x.copy(0, 6, 0, 0, 0));
        square.refused("copy: from somebody to NOTHING", OTHER, x -> x.copy(2, 3, 0, 0, 0));
        square.refused("copy: from NOTHING to somebody", OTHER, x -> x.copy(3, 2, 0, 0, 0));
        square.refused("copy: from somebody of another number to NOTHING", OTHER, x -> x.copy(6, 3, 0, 0, 0));
        square.refused("copy: from NOTHING to somebody of another number", OTHER, x -> x.copy(3, 6, 0, 0, 0));
        square.refused("copy: somebody to the same", OTHER, x -> x.copy(6, 6, 0, 0, 0));
        square.refused("copy: somebody ahead of the others", OTHER, x -> x.copy(2, 2, -1, -1, -1));
        square.refused("copy: two SORTS", OTHER, x -> x.copy(0, 1, 0, 0, 1));
        square.refused("copy: two SORTS ahead of the others", OTHER, x -> x.copy(4, 5, 99, 99, 99));
        square.refused("copy: from NOTHING", NOTHING, x -> x.copy(3, 0, 0, 0, 0));
        square.refused("copy: to NOTHING", NOTHING, x -> x.copy(0, 3, 0, 0, 0));
        square.refused("copy: NOTHING to itself", NOTHING, x -> x.copy(3, 3, 0, 0, 0));
        square.refused("copy: NOTHING ahead of the others", NOTHING, x -> x.copy(0, 3, 99, 99, 99));
        square.bounds("copy: i of one", 0, 2, i -> x -> x.copy(0, 0, i, 0, 1));
        square.bounds("copy: j of one", 0, 2, j -> x -> x.copy(0, 0, 0, j, 1));
        square.bounds("copy: i of none", 0, 3, i -> x -> x.copy(0, 0, i, 0, 0));
        square.bounds("copy: j of none", 0, 3, j -> x -> x.copy(0, 0, 0, j, 0));
        square.bounds("copy: n from the first", 0, 3, n -> x -> x.copy(0, 0, 0, 0, n));
        square.bounds("copy: n from the second", 0, 2, n -> x -> x.copy(0, 0, 1, 0, n));
        square.bounds("copy: n to the last", 0, 1, n -> x -> x.copy(0, 0, 0, 2, n));
        square.refused("copy: i and n wrap around", BAD, x -> x.copy(0, 0, FAR, 0, FAR));
        square.refused("copy: j and n wrap around", BAD, x -> x.copy(0, 0, 0, FAR, FAR));
        square.refused("copy: i and n wrap around to nought", BAD, x -> x.copy(0, 0, FAR_BELOW, 0, FAR_BELOW));
    }

    private static void promises5And6NothingIsRefused() {
        int[] numbers = {FAR_BELOW, -1, 0, 2, 3, 7, 8, 40, FAR};
        for (int s : numbers) {
            for (int i : numbers) {
                boolean is = s == 0 && (i == 0 || i == 2) || s == 7 && i == 0;
                long want = !is ? 0 : i == 0 ? 1 : 23;
                if (s != 1 && s != 5) {
                    square.answers("element " + s + " " + i, want, x -> x.element(s, i));
                }
            }
        }
        int[] held = {-1, 2, 0, 10, -1, 3, 4, 15, 1, -1};
        for (int s = -1; s <= 8; s++) {
            int shelf = s;
            square.changesNothing("holds " + s, held[s + 1], x -> x.holds(shelf));
        }
        square.changesNothing("holds far", -1, x -> x.holds(FAR));
        square.changesNothing("holds far below", -1, x -> x.holds(FAR_BELOW));
    }

    private static void promise7Show() {
        square.bounds("show: SHELF", 0, 7, s -> x -> x.show(s, 0));
        square.bounds("show: one or NONE", -1, 5, one -> x -> x.show(3, one));
        square.bounds("show: NONE in a SHELF", 0, 7, s -> x -> x.show(s, -1));
        empty.bounds("show: nobody there", -1, -1, one -> x -> x.show(0, one));
    }

    private static void promise8Says() {
        square.bounds("says: SHELF", 0, 7, s -> x -> x.says(s, 0));
        square.bounds("says: KIND", 0, 5, kind -> x -> x.says(2, kind));
        square.refused("says: no KIND of a ROW", BAD, x -> x.says(0, 6));
        square.refused("says: no KIND of NOTHING", BAD, x -> x.says(3, -1));
        for (int s : new int[] {0, 1, 4, 5, 7}) {
            square.refused("says: a ROW", OTHER, x -> x.says(s, 0));
        }
        square.refused("says: NOTHING", NOTHING, x -> x.says(3, 0));
        square.refused("says: NOTHING as one of a KIND", NOTHING, x -> x.says(3, 5));
        for (int is = 0; is < 6; is++) {
            for (int as = 0; as < 6; as++) {
                saysAs(is, as);
            }
        }
    }

    private static void saysAs(int is, int as) {
        Trial one = new Trial(check, () -> {
            OnlyUnseen x = Trial.square();
            x.show(0, is);
            return x;
        });
        String name = "says: KIND " + is + " as " + as;
        // what the six of the square say as PERSON, and each as what they are; a LIAR as GUESS, too
        int[] asPerson = {2, 0, 27, 31, 4, 10};
        int[] asWhatTheyAre = {2, 1, 4, 3, 1, 4};
        if (as == 0) {
            one.changesNothing(name, asPerson[is], x -> x.says(0, as));
        } else if (as == is || is == 3 && as == 2) {
            one.changesNothing(name, as == is ? asWhatTheyAre[is] : 4, x -> x.says(0, as));
        } else {
            one.refused(name, OTHER, x -> x.says(0, as));
        }
    }

    private static void promise9Sights() {
        square.bounds("sights", 5, 8, n -> x -> x.sights(n));
        empty.bounds("sights at first", 4, 8, n -> x -> x.sights(n));
        full.bounds("sights at most", 8, 8, n -> x -> x.sights(n));
    }

    private static void promise10Person() {
        square.bounds("person: KIND", 0, 5, kind -> x -> x.person(kind, 0));
        square.bounds("person: a", 0, 9, a -> x -> x.person(0, a));
        for (int kind = 0; kind < 6; kind++) {
            int of = kind;
            full.refused("person: FULL", STATUS_FULL, x -> x.person(of, 0));
        }
        full.bounds("person: KIND ahead of FULL", 0, 5, kind -> x -> x.person(kind, 0));
        full.bounds("person: a ahead of FULL", 0, 9, a -> x -> x.person(0, a));
    }

    private static void promise11See() {
        square.bounds("see: one", 0, 5, one -> x -> x.see(one, 0, 2));
        square.bounds("see: SIGHT", 0, 4, sight -> x -> x.see(0, sight, 2));
        square.bounds("see: how", 0, 2, how -> x -> x.see(0, 0, how));
        square.refused("see: a BLIND one", STUCK, x -> x.see(4, 0, 2));
        square.refused("see: a BLIND one by HALF", STUCK, x -> x.see(4, 2, 1));
        square.changesNothing("see: a BLIND one has not", 0, x -> x.see(4, 2, 0));
        square.bounds("see: SIGHT ahead of STUCK", 0, 4, sight -> x -> x.see(4, sight, 1));
        square.bounds("see: how ahead of STUCK", 0, 2, how -> x -> x.see(4, 0, how));
        full.bounds("see: SIGHT at most", 0, 7, sight -> x -> x.see(6, sight, 1));
        full.bounds("see: one at most", 0, 6, one -> x -> x.see(one, 7, 2));
        empty.bounds("see: nobody there", 0, -1, one -> x -> x.see(one, 0, 0));
    }

    private static void promise12Hear() {
        for (boolean is : new boolean[] {true, false}) {
            square.bounds("hear: one", 0, 5, one -> x -> x.hear(one, 0, is));
            square.bounds("hear: SIGHT", 0, 4, sight -> x -> x.hear(4, sight, is));
            full.bounds("hear: SIGHT at most", 0, 7, sight -> x -> x.hear(6, sight, is));
            empty.bounds("hear: nobody there", 0, -1, one -> x -> x.hear(one, 0, is));
        }
        square.changesNothing("hear: so already", 0, x -> x.hear(4, 2, true));
        square.changesNothing("hear: not so already", 0, x -> x.hear(4, 1, false));
    }

    private static void promise13Near() {
        for (boolean is : new boolean[] {true, false}) {
            square.bounds("near: one, not the first", 1, 5, one -> x -> x.near(one, 0, is));
            square.bounds("near: one, not the last", 0, 4, one -> x -> x.near(one, 5, is));
            square.bounds("near: other, not the first", 1, 5, other -> x -> x.near(0, other, is));
            square.bounds("near: other, not the last", 0, 4, other -> x -> x.near(5, other, is));
            for (int one = 0; one < 6; one++) {
                int same = one;
                square.refused("near: the same " + one, BAD, x -> x.near(same, same, is));
            }
            full.bounds("near: one at most", 0, 5, one -> x -> x.near(one, 6, is));
            full.bounds("near: other at most", 0, 5, other -> x -> x.near(6, other, is));
        }
        square.changesNothing("near: so already", 0, x -> x.near(5, 4, true));
        square.changesNothing("near: not so already", 0, x -> x.near(4, 5, false));
    }

    private static void promise14Ask() {
        square.bounds("ask: what", 0, 2, what -> x -> x.ask(what, 0));
        square.bounds("ask: DUSK", 0, 1, v -> x -> x.ask(0, v));
        square.bounds("ask: SIGNS", 0, 9, v -> x -> x.ask(1, v));
        square.bounds("ask: LIES", 0, 9, v -> x -> x.ask(2, v));
    }

    private static void promise15Feed() {
        square.bounds("feed", 0, 255, letter -> x -> x.feed(letter));
        full.refused("feed: FULL", STATUS_FULL, x -> x.feed(' '));
        full.bounds("feed: a byte ahead of FULL", 0, 255, letter -> x -> x.feed(letter));
        Trial almost = new Trial(check, () -> {
            OnlyUnseen x = new OnlyUnseen();
            for (int i = 0; i < 249; i++) {
                x.feed(' ');
            }
            return x;
        });
        almost.answers("feed: the last byte", 250, x -> x.feed(' '));
    }

    private static void promise18PersonOf() {
        square.bounds("personOf: one", 0, 5, one -> x -> x.personOf(one, 0));
        square.bounds("personOf: what", 0, 7, what -> x -> x.personOf(5, what));
        full.bounds("personOf: one at most", 0, 6, one -> x -> x.personOf(one, 7));
        empty.bounds("personOf: nobody there", 0, -1, one -> x -> x.personOf(one, 0));
    }

    private static void promises19And20May() {
        square.bounds("may: one", 0, 5, one -> x -> x.may(one, 0));
        square.bounds("may: SIGHT", 0, 4, sight -> x -> x.may(3, sight));
        full.bounds("may: SIGHT at most", 0, 7, sight -> x -> x.may(6, sight));
        empty.bounds("may: nobody there", 0, -1, one -> x -> x.may(one, 0));
        square.bounds("mouths: SIGHT", 0, 4, sight -> x -> x.mouths(sight));
        full.bounds("mouths: SIGHT at most", 0, 7, sight -> x -> x.mouths(sight));
        empty.bounds("mouths: SIGHT, nobody there", 0, 3, sight -> x -> x.mouths(sight));
    }

    private static void promise21Say() {
        square.bounds("say: one", 0, 5, one -> x -> x.say(one, 0));
        square.bounds("say: SIGHT", 0, 4, sight -> x -> x.say(3, sight));
        square.bounds("say: SIGHT ahead of STUCK", 0, 4, sight -> x -> x.say(1, sight));
        square.refused("say: what is BARRED", STUCK, x -> x.say(0, 0));
        square.refused("say: what isn't HEARD of", STUCK, x -> x.say(0, 4));
        square.refused("say: TRUE by nobody", STUCK, x -> x.say(1, 2));
        square.refused("say: GUESS of what is BARRED", STUCK, x -> x.say(2, 2));
        square.refused("say: BLIND of what isn't HEARD of", STUCK, x -> x.say(4, 0));
        square.refused("say: FORGETS of what is BARRED", STUCK, x -> x.say(5, 4));
        square.answers("say: LIAR of what is BARRED", 1, x -> x.say(3, 3));
        empty.bounds("say: nobody there", 0, -1, one -> x -> x.say(one, 0));
    }

    private static void promise22Sign() {
        square.bounds("sign: one", 0, 5, one -> x -> x.sign(one, 1, 0));
        square.bounds("sign: other", 0, 5, other -> x -> x.sign(0, other, 0));
        square.bounds("sign: SIGHT", 0, 4, sight -> x -> x.sign(0, 1, sight));
        square.bounds("sign: SIGHT ahead of STUCK", 0, 4, sight -> x -> x.sign(4, 0, sight));
        square.refused("sign: what one hasn't SEEN", STUCK, x -> x.sign(0, 1, 4));
        square.refused("sign: what one has HALF seen", STUCK, x -> x.sign(0, 1, 3));
        square.refused("sign: what one has only HEARD of", STUCK, x -> x.sign(0, 1, 1));
        square.refused("sign: to one who doesn't HEAR", STUCK, x -> x.sign(0, 3, 0));
        square.refused("sign: to the same", STUCK, x -> x.sign(0, 0, 0));
        square.answers("sign: anew", 1, x -> x.sign(0, 1, 0));
        Trial told = new Trial(check, () -> {
            OnlyUnseen x = Trial.square();
            x.hear(1, 0, true);
            return x;
        });
        told.changesNothing("sign: HEARD of already", 0, x -> x.sign(0, 1, 0));
    }

    private static void promises24To28Rounds() {
        square.bounds("spread: n", 0, 20, n -> x -> x.spread(n, 0));
        square.bounds("spread: one", 0, 5, one -> x -> x.spread(1, one));
        empty.bounds("spread: nobody there", 0, -1, one -> x -> x.spread(0, one));
        square.bounds("knownBy: n", 0, 20, n -> x -> x.knownBy(n));
        empty.bounds("knownBy: n, nobody there", 0, 20, n -> x -> x.knownBy(n));
        square.bounds("never: SIGHT", 0, 4, sight -> x -> x.never(sight));
        full.bounds("never: SIGHT at most", 0, 7, sight -> x -> x.never(sight));
        empty.bounds("never: SIGHT, nobody there", 0, 3, sight -> x -> x.never(sight));
        square.bounds("when: one", 0, 5, one -> x -> x.when(one, 0));
        square.bounds("when: SIGHT", 0, 4, sight -> x -> x.when(0, sight));
        square.changesNothing("when: NONE isn't refused", -1, x -> x.when(2, 4));
        empty.bounds("when: nobody there", 0, -1, one -> x -> x.when(one, 0));
    }

    private static void promises29And30StopAndFirst() {
        square.bounds("stop: SIGHT", 0, 4, sight -> x -> x.stop(sight, 1));
        square.bounds("stop: n", 0, 20, n -> x -> x.stop(0, n));
        square.changesNothing("stop: NONE isn't refused", -1, x -> x.stop(2, 0));
        empty.bounds("stop: SIGHT, nobody there", 0, 3, sight -> x -> x.stop(sight, 0));
        square.bounds("first: SIGHT", 0, 4, sight -> x -> x.first(sight, 1));
        square.bounds("first: n", 0, 20, n -> x -> x.first(0, n));
        empty.refused("first: no PEOPLE", STUCK, x -> x.first(0, 0));
        empty.refused("first: no PEOPLE at most", STUCK, x -> x.first(3, 20));
        empty.bounds("first: SIGHT ahead of STUCK", 0, 3, sight -> x -> x.first(sight, 0));
        empty.bounds("first: n ahead of STUCK", 0, 20, n -> x -> x.first(0, n));
    }

    private static void promises31To33OrderWorthChain() {
        square.bounds("order", -1, 5, i -> x -> x.order(i));
        empty.bounds("order: nobody there", -1, -1, i -> x -> x.order(i));
        full.bounds("order at most", -1, 6, i -> x -> x.order(i));
        square.bounds("worth: one", 0, 5, one -> x -> x.worth(one, 1));
        square.bounds("worth: n", 0, 20, n -> x -> x.worth(0, n));
        empty.bounds("worth: nobody there", 0, -1, one -> x -> x.worth(one, 0));
        square.bounds("chain: one", 0, 5, one -> x -> x.chain(one, 0, 0));
        square.bounds("chain: other", 0, 5, other -> x -> x.chain(0, other, 0));
        square.bounds("chain: SIGHT", 0, 4, sight -> x -> x.chain(0, 1, sight));
        square.bounds("chain: SIGHT of the same", 0, 4, sight -> x -> x.chain(0, 0, sight));
        square.refused("chain: nobody to the same", BAD, x -> x.chain(6, 6, 0));
        square.changesNothing("chain: NONE isn't refused", -1, x -> x.chain(5, 0, 0));
        empty.bounds("chain: nobody there", 0, -1, one -> x -> x.chain(one, one, 0));
    }

    private static void promises35To40() {
        square.bounds("mouthsBy: SIGHT", 0, 4, sight -> x -> x.mouthsBy(sight, 1));
        square.bounds("mouthsBy: n", 0, 20, n -> x -> x.mouthsBy(0, n));
        square.bounds("barred: SIGHT", 0, 4, sight -> x -> x.barred(sight));
        full.bounds("barred: SIGHT at most", 0, 7, sight -> x -> x.barred(sight));
        square.bounds("blind: one", 0, 5, BAD_BELOW_NOUGHT, one -> x -> x.blind(one, 1));
        square.bounds("blind: n", 0, 20, BAD_BELOW_NOUGHT, n -> x -> x.blind(0, n));
        empty.bounds("blind: nobody there", 0, -1, BAD_BELOW_NOUGHT, one -> x -> x.blind(one, 0));
        square.bounds("dusk: n", 0, 20, BAD_BELOW_NOUGHT, n -> x -> x.dusk(n));
        empty.bounds("dusk: n, nobody there", 0, 20, BAD_BELOW_NOUGHT, n -> x -> x.dusk(n));
        empty.refused("loudest: no PEOPLE", STUCK, x -> x.loudest());
        square.changesNothing("loudest", 3, x -> x.loudest());
        full.changesNothing("loudest of seven", 0, x -> x.loudest());
    }

    /** BAD SHELF, n; OTHER; NOTHING; BAD: fewer elements. */
    private static void rowCall(String name, int least, int most, RowCall call) {
        square.bounds(name + ": SHELF", 0, 7, s -> x -> call.of(x, s == 4 ? 1 : s, 1));
        square.bounds(name + ": n", least, most, n -> x -> call.of(x, 1, n));
        square.refused(name + ": no SHELF ahead of fewer", BAD, x -> call.of(x, 8, most));
        for (int n : new int[] {least - 1, most + 1}) {
            square.refused(name + ": n ahead of somebody", BAD, x -> call.of(x, 2, n));
            square.refused(name + ": n ahead of NOTHING", BAD, x -> call.of(x, 3, n));
        }
        for (int n : new int[] {least, most}) {
            square.refused(name + ": somebody", OTHER, x -> call.of(x, 2, n));
            square.refused(name + ": somebody at last", OTHER, x -> call.of(x, 6, n));
            square.refused(name + ": NOTHING", NOTHING, x -> call.of(x, 3, n));
        }
        square.bounds(name + ": n of three", least, 3, n -> x -> call.of(x, 0, n));
        for (int n = 4; n <= most; n++) {
            int more = n;
            square.refused(name + ": fewer than " + n, BAD, x -> call.of(x, 0, more));
        }
        Trial none = new Trial(check, () -> emptyRow());
        none.refused(name + ": fewer, none", BAD, x -> call.of(x, 0, 1));
    }

    private static void promise41Whom() {
        rowCall("whom", 1, 10, (x, s, n) -> x.whom(s, n));
    }

    private static void promise42Parts() {
        rowCall("parts", 1, 10, (x, s, n) -> x.parts(s, n, 0));
        square.bounds("parts: set", 0, 63, set -> x -> x.parts(0, 3, set));
        full.refused("parts: set ahead of NOTHING", BAD, x -> x.parts(0, 1, 128));
        full.refused("parts: set of all, NOTHING", NOTHING, x -> x.parts(0, 1, 127));
        square.refused("parts: set ahead of somebody", BAD, x -> x.parts(2, 1, 64));
        square.refused("parts: set of all, somebody", OTHER, x -> x.parts(2, 1, 63));
        square.refused("parts: set below ahead of NOTHING", BAD, x -> x.parts(3, 1, -1));
        empty.bounds("parts: set of nobody", 0, 0, set -> x -> x.parts(0, 3, set));
    }

    private static void promise43Judge() {
        rowCall("judge", 0, 40, (x, s, n) -> x.judge(s, n));
        square.changesNothing("judge: NONE isn't refused", -1, x -> x.judge(0, 3));
        square.changesNothing("judge: no SAYING isn't refused", 0, x -> x.judge(4, 2));
        square.changesNothing("judge: nobody there isn't refused", 1, x -> x.judge(7, 2));
    }

    private static void promise44Heard() {
        rowCall("heard", 0, 40, (x, s, n) -> x.heard(s, n, 0));
        square.bounds("heard: one", 0, 5, one -> x -> x.heard(0, 3, one));
        square.refused("heard: one ahead of somebody", BAD, x -> x.heard(2, 0, 6));
        square.refused("heard: one ahead of NOTHING", BAD, x -> x.heard(3, 0, -1));
        square.refused("heard: one ahead of STUCK", BAD, x -> x.heard(1, 1, 6));
        square.refused("heard: STUCK, it MAY not be", STUCK, x -> x.heard(1, 1, 0));
        square.refused("heard: STUCK, no SAYING", STUCK, x -> x.heard(4, 1, 0));
        square.refused("heard: STUCK, nobody there", STUCK, x -> x.heard(7, 2, 0));
        square.refused("heard: fewer ahead of STUCK", BAD, x -> x.heard(7, 3, 0));
        square.changesNothing("heard: none of it", 2, x -> x.heard(1, 0, 0));
    }

    private static void noSayings(String name, RowCall call) {
        square.refused(name + ": no SAYING, far", BAD, x -> call.of(x, 4, 1));
        square.refused(name + ": no SAYING, below", BAD, x -> call.of(x, 4, 2));
        square.refused(name + ": no SAYING, nobody there", BAD, x -> call.of(x, 7, 2));
        square.answers(name + ": ahead of no SAYING", 0, x -> call.of(x, 7, 1));
        Trial noSight = new Trial(check, () -> Check.withRow(Trial.square(), 50, 54, 55));
        noSight.refused(name + ": no SAYING, no SIGHT", BAD, x -> call.of(x, 0, 3));
        noSight.bounds(name + ": ahead of no SIGHT", 0, 2, n -> x -> call.of(x, 0, n));
    }

    private static void promise45Falsely() {
        rowCall("falsely", 0, 40, (x, s, n) -> x.falsely(s, n));
        noSayings("falsely", (x, s, n) -> x.falsely(s, n));
        square.changesNothing("falsely: of what MAY not be", 40, x -> x.falsely(1, 40));
    }

    private static void promise46Surely() {
        rowCall("surely", 0, 40, (x, s, n) -> x.surely(s, n, 0));
        noSayings("surely", (x, s, n) -> x.surely(s, n, 4));
        square.bounds("surely: SIGHT", 0, 4, sight -> x -> x.surely(0, 3, sight));
        square.refused("surely: SIGHT ahead of somebody", BAD, x -> x.surely(2, 0, 5));
        square.refused("surely: SIGHT ahead of NOTHING", BAD, x -> x.surely(3, 0, -1));
        square.changesNothing("surely: of what MAY not be", 0, x -> x.surely(1, 40, 0));
    }

    private static void promise47Free() {
        rowCall("free", 0, 40, (x, s, n) -> x.free(s, n, 0));
        noSayings("free", (x, s, n) -> x.free(s, n, 4));
        square.bounds("free: SIGHT", 0, 4, sight -> x -> x.free(0, 3, sight));
        square.refused("free: SIGHT ahead of somebody", BAD, x -> x.free(2, 0, 5));
        square.refused("free: SIGHT ahead of NOTHING", BAD, x -> x.free(3, 0, -1));
        square.changesNothing("free: of what MAY not be", 6, x -> x.free(1, 40, 0));
    }

    private static void promise48Evening() {
        rowCall("evening", 0, 40, (x, s, n) -> x.evening(s, n));
        square.refused("evening: STUCK, it MAY not be", STUCK, x -> x.evening(1, 1));
        square.refused("evening: STUCK, no SAYING", STUCK, x -> x.evening(4, 1));
        square.refused("evening: STUCK behind what MAY be", STUCK, x -> x.evening(7, 2));
        square.refused("evening: fewer ahead of STUCK", BAD, x -> x.evening(7, 3));
        square.changesNothing("evening: none of it", 12, x -> x.evening(1, 0));
    }

    private static void promise49Talk() {
        square.bounds("talk", 1, 40, n -> x -> x.talk(n));
        empty.bounds("talk: n ahead of STUCK", 1, 40, n -> x -> x.talk(n));
        empty.refused("talk: no PEOPLE", STUCK, x -> x.talk(1));
        empty.refused("talk: no PEOPLE at most", STUCK, x -> x.talk(40));
    }

    private static void promise54Back() {
        empty.refused("back: nothing was kept", STUCK, x -> x.back());
        full.refused("back: nothing was kept of all", STUCK, x -> x.back());
        square.answers("back", 1, x -> x.back());
    }

    private static void promise55StatusIsNotRefused() {
        for (int what : new int[] {FAR_BELOW, -1, 11, 17, FAR}) {
            square.changesNothing("status " + what, -1, x -> x.status(what));
        }
    }

    private static void callsThatRefuseNothing() {
        square.changesNothing("known", 12, x -> x.known());
        square.changesNothing("rounds", 3, x -> x.rounds());
        square.changesNothing("pairs", 1, x -> x.pairs());
        square.changesNothing("alone", 32, x -> x.alone());
        empty.changesNothing("known of nobody", 0, x -> x.known());
        empty.changesNothing("rounds of nobody", 0, x -> x.rounds());
        empty.changesNothing("pairs of nobody", 0, x -> x.pairs());
        empty.changesNothing("alone of nobody", 0, x -> x.alone());
        empty.answers("round of nobody", 0, x -> x.round());
        empty.answers("night of nobody", 1, x -> x.night());
        empty.answers("wipe of nothing", 0, x -> x.wipe());
        square.answers("wipe", 6, x -> x.wipe());
        square.answers("seed", 77, x -> x.seed(FAR_BELOW));
        square.answers("image", 1, x -> x.image());
    }

    public static void main(String[] args) {
        promise2Row();
        promise3Set();
        promise4Copy();
        promises5And6NothingIsRefused();
        promise7Show();
        promise8Says();
        promise9Sights();
        promise10Person();
        promise11See();
        promise12Hear();
        promise13Near();
        promise14Ask();
        promise15Feed();
        promise18PersonOf();
        promises19And20May();
        promise21Say();
        promise22Sign();
        promises24To28Rounds();
        promises29And30StopAndFirst();
        promises31To33OrderWorthChain();
        promises35To40();
        promise41Whom();
        promise42Parts();
        promise43Judge();
        promise44Heard();
        promise45Falsely();
        promise46Surely();
        promise47Free();
        promise48Evening();
        promise49Talk();
        promise54Back();
        promise55StatusIsNotRefused();
        callsThatRefuseNothing();
        check.end("RefusalsTest");
    }
}
