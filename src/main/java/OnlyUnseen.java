/** A town in which one may speak of anything but what one has seen oneself. */
public final class OnlyUnseen {
    public static final int NONE = -1;

    private static final int BAD = -2;
    private static final int OTHER = -3;
    private static final int NOTHING = -4;
    private static final int STUCK = -5;
    private static final int FULL = -6;
    private static final int REFUSALS = 5;
    private static final int BELOW_NOUGHT = -1000000;
    private static final int BEHIND_FAULTS = -20;

    private static final int PEOPLE_MOST = 7;
    private static final int SIGHTS_MOST = 8;
    private static final int ROUNDS_MOST = 20;
    private static final int TAPE_MOST = 250;
    private static final int SHELVES = 8;
    private static final int ROW_MOST = 40;
    private static final int SETS_MOST = 10;

    private static final int PERSON = 0;
    private static final int TRUE = 1;
    private static final int GUESS = 2;
    private static final int LIAR = 3;
    private static final int BLIND = 4;
    private static final int FORGETS = 5;

    private static final int NEITHER = 0;
    private static final int HALF = 1;
    private static final int SEEN = 2;

    private final Town now = new Town();
    private final Town kept = new Town();
    private final Town then = new Town();
    private final Shelves shelves = new Shelves();
    private final Tape tape = new Tape();
    private final Rounds rounds = new Rounds(now, then);
    private final Orders orders = new Orders(now, then);
    private final Evenings evenings = new Evenings(now, then, shelves);
    private final int[] refusals = new int[REFUSALS];
    private boolean isKept = false;

    public OnlyUnseen() {
    }

    public int row(int s, int sort, int n) {
        if (!isShelf(s) || !isWithin(sort, 0, Shelves.BOOLEANS) || !isWithin(n, 0, ROW_MOST)) {
            return refuse(BAD);
        }
        shelves.putRow(s, sort, n);
        return 1;
    }

    public int set(int s, int i, long v) {
        int trouble = shelves.troubleWithRow(s, 0);
        if (trouble != 0) {
            return refuse(trouble);
        }
        if (!isWithin(i, 0, shelves.sizeOf(s) - 1)) {
            return refuse(BAD);
        }
        shelves.putElement(s, i, v);
        return 1;
    }

    public int copy(int p, int q, int i, int j, int n) {
        int trouble = shelves.troubleWithRows(p, q);
        if (trouble != 0) {
            return refuse(trouble);
        }
        if (!isPart(i, n, shelves.sizeOf(p)) || !isPart(j, n, shelves.sizeOf(q))) {
            return refuse(BAD);
        }
        shelves.copyElements(p, q, i, j, n);
        return n;
    }

    public long element(int s, int i) {
        return shelves.elementOf(s, i);
    }

    public int holds(int s) {
        return shelves.heldBy(s);
    }

    public int show(int s, int one) {
        if (!isShelf(s) || one != NONE && !now.isOne(one)) {
            return refuse(BAD);
        }
        shelves.putOne(s, one);
        return 1;
    }

    public int says(int s, int kind) {
        if (!isShelf(s) || !isKind(kind)) {
            return refuse(BAD);
        }
        int held = shelves.heldBy(s);
        if (held == NONE) {
            return refuse(NOTHING);
        }
        int one = held - Shelves.SOMEBODY;
        if (!now.isOne(one) || !now.isOfKind(one, kind)) {
            return refuse(OTHER);
        }
        return now.sayingAs(one, kind);
    }

    public int sights(int n) {
        if (!isWithin(n, now.sights, SIGHTS_MOST)) {
            return refuse(BAD);
        }
        int before = now.sights;
        now.sights = n;
        return before;
    }

    public int person(int kind, int a) {
        if (!isKind(kind) || !isWithin(a, 0, 9)) {
            return refuse(BAD);
        }
        if (now.isFull()) {
            return refuse(FULL);
        }
        return now.join(kind, a);
    }

    public int see(int one, int sight, int how) {
        if (!now.isOne(one) || !now.isSight(sight) || !isWithin(how, NEITHER, SEEN)) {
            return refuse(BAD);
        }
        if (how != NEITHER && now.kindOf(one) == BLIND) {
            return refuse(STUCK);
        }
        int before = now.howSeen(one, sight);
        now.putSeen(one, sight, how);
        return before;
    }

    public int hear(int one, int sight, boolean is) {
        if (!now.isOne(one) || !now.isSight(sight)) {
            return refuse(BAD);
        }
        boolean was = has(now.heard[one], sight);
        now.putHeard(one, sight, is);
        return was == is ? 0 : 1;
    }

    public int near(int one, int other, boolean is) {
        if (!now.isOne(one) || !now.isOne(other) || one == other) {
            return refuse(BAD);
        }
        boolean was = has(now.hears[one], other);
        now.putHears(one, other, is);
        return was == is ? 0 : 1;
    }

    public int ask(int what, int v) {
        if (!isWithin(what, Town.DUSK, Town.LIES) || !isWithin(v, 0, Town.mostOf(what))) {
            return refuse(BAD);
        }
        int before = now.settingOf(what);
        now.putSetting(what, v);
        return before;
    }

    public int feed(int letter) {
        if (!isWithin(letter, 0, 255)) {
            return refuse(BAD);
        }
        if (tape.size >= TAPE_MOST) {
            return refuse(FULL);
        }
        tape.put(letter);
        return tape.size;
    }

    public int wipe() {
        int before = tape.size;
        tape.size = 0;
        return before;
    }

    public int town() {
        then.become(now);
        int statements = tape.readInto(then);
        tape.size = 0;
        if (statements == NONE) {
            refuse(BAD);
            return BEHIND_FAULTS - tape.fault;
        }
        now.become(then);
        return statements;
    }

    public int personOf(int one, int what) {
        if (!now.isOne(one) || !isWithin(what, 0, 7)) {
            return refuse(BAD);
        }
        return now.factOf(one, what);
    }

    public int may(int one, int sight) {
        if (!now.isOne(one) || !now.isSight(sight)) {
            return refuse(BAD);
        }
        return has(now.sayableBy(one), sight) ? 1 : 0;
    }

    public int mouths(int sight) {
        return now.isSight(sight) ? now.whoMaySay(sight) : refuse(BAD);
    }

    public int say(int one, int sight) {
        if (!now.isOne(one) || !now.isSight(sight)) {
            return refuse(BAD);
        }
        if (!has(now.sayableBy(one), sight)) {
            return refuse(STUCK);
        }
        return now.tell(one, 1 << sight);
    }

    public int sign(int one, int other, int sight) {
        if (!now.isOne(one) || !now.isOne(other) || !now.isSight(sight)) {
            return refuse(BAD);
        }
        if (!has(now.seen[one], sight) || !has(now.hears[other], one)) {
            return refuse(STUCK);
        }
        boolean was = has(now.heard[other], sight);
        now.putHeard(other, sight, true);
        return was ? 0 : 1;
    }

    public int known() {
        return now.knownInAll();
    }

    public int spread(int n, int one) {
        if (!isRounds(n) || !now.isOne(one)) {
            return refuse(BAD);
        }
        return rounds.after(n).heard[one];
    }

    public int knownBy(int n) {
        return isRounds(n) ? rounds.after(n).knownInAll() : refuse(BAD);
    }

    public int rounds() {
        return rounds.untilStill();
    }

    public int never(int sight) {
        if (!now.isSight(sight)) {
            return refuse(BAD);
        }
        return now.allPeople() & ~rounds.after(ROUNDS_MOST).whoKnows(sight);
    }

    public int when(int one, int sight) {
        if (!now.isOne(one) || !now.isSight(sight)) {
            return refuse(BAD);
        }
        return rounds.untilKnown(one, sight);
    }

    public int stop(int sight, int n) {
        if (!now.isSight(sight) || !isRounds(n)) {
            return refuse(BAD);
        }
        return rounds.fewestToShow(sight, n);
    }

    public int first(int sight, int n) {
        if (!now.isSight(sight) || !isRounds(n)) {
            return refuse(BAD);
        }
        if (now.people == 0) {
            return refuse(STUCK);
        }
        return rounds.bestToTell(sight, n);
    }

    public int order(int i) {
        if (!isWithin(i, NONE, now.people - 1)) {
            return refuse(BAD);
        }
        orders.search();
        return i == NONE ? orders.mostKnown() : orders.speakerAt(i);
    }

    public int worth(int one, int n) {
        if (!now.isOne(one) || !isRounds(n)) {
            return refuse(BAD);
        }
        return rounds.lostWithout(one, n);
    }

    public int chain(int one, int other, int sight) {
        if (!now.isOne(one) || !now.isOne(other) || !now.isSight(sight)) {
            return refuse(BAD);
        }
        return now.sayingsBetween(one, other, sight);
    }

    public int pairs() {
        return now.pairsHearing();
    }

    public int mouthsBy(int sight, int n) {
        if (!now.isSight(sight) || !isRounds(n)) {
            return refuse(BAD);
        }
        return rounds.after(n).whoMaySay(sight);
    }

    public int alone() {
        return now.whoIsUnheard();
    }

    public int barred(int sight) {
        return now.isSight(sight) ? now.whoIsBarred(sight) : refuse(BAD);
    }

    public int blind(int one, int n) {
        if (!now.isOne(one) || !isRounds(n)) {
            return BELOW_NOUGHT + refuse(BAD);
        }
        return rounds.gainByBlind(one, n);
    }

    public int dusk(int n) {
        return isRounds(n) ? rounds.gainByLight(n) : BELOW_NOUGHT + refuse(BAD);
    }

    public int loudest() {
        return now.people == 0 ? refuse(STUCK) : now.whoMaySayMost();
    }

    public int whom(int s, int n) {
        int trouble = isWithin(n, 1, SETS_MOST) ? shelves.troubleWithRow(s, n) : BAD;
        if (trouble != 0) {
            return refuse(trouble);
        }
        return shelves.fewestApart(s, n, now.allPeople());
    }

    public int parts(int s, int n, int set) {
        boolean isGood = isWithin(n, 1, SETS_MOST) && isWithin(set, 0, now.allPeople());
        int trouble = isGood ? shelves.troubleWithRow(s, n) : BAD;
        if (trouble != 0) {
            return refuse(trouble);
        }
        return shelves.isApart(s, n, set, now.allPeople()) ? 1 : 0;
    }

    public int judge(int s, int n) {
        int trouble = troubleWithEvening(s, n);
        return trouble != 0 ? refuse(trouble) : evenings.firstWrong(s, n);
    }

    public int heard(int s, int n, int one) {
        int trouble = now.isOne(one) ? troubleWithEvening(s, n) : BAD;
        if (trouble != 0) {
            return refuse(trouble);
        }
        if (evenings.firstWrong(s, n) != NONE) {
            return refuse(STUCK);
        }
        return then.heard[one];
    }

    public int falsely(int s, int n) {
        int trouble = troubleWithSayings(s, n);
        return trouble != 0 ? refuse(trouble) : evenings.falseSayings(s, n);
    }

    public int surely(int s, int n, int sight) {
        int trouble = now.isSight(sight) ? troubleWithSayings(s, n) : BAD;
        if (trouble != 0) {
            return refuse(trouble);
        }
        return evenings.silentOf(s, n, sight) & now.whoIsBarred(sight);
    }

    public int free(int s, int n, int sight) {
        int trouble = now.isSight(sight) ? troubleWithSayings(s, n) : BAD;
        if (trouble != 0) {
            return refuse(trouble);
        }
        return evenings.silentOf(s, n, sight) & ~now.whoIsBarred(sight) & evenings.mouthsBehind(s, n, sight);
    }

    public int evening(int s, int n) {
        int trouble = troubleWithEvening(s, n);
        if (trouble != 0) {
            return refuse(trouble);
        }
        if (evenings.firstWrong(s, n) != NONE) {
            return refuse(STUCK);
        }
        now.become(then);
        return now.knownInAll();
    }

    public int talk(int n) {
        if (!isWithin(n, 1, ROW_MOST)) {
            return refuse(BAD);
        }
        return now.people == 0 ? refuse(STUCK) : now.sayByDraws(n);
    }

    public int round() {
        now.passRound();
        return now.knownInAll();
    }

    public int night() {
        now.passNight();
        return now.evenings;
    }

    public int seed(int v) {
        int before = now.seed;
        now.seed = v;
        return before;
    }

    public int image() {
        kept.become(now);
        isKept = true;
        return 1;
    }

    public int back() {
        if (!isKept) {
            return refuse(STUCK);
        }
        now.become(kept);
        shelves.keepPeopleBelow(now.people);
        return 1;
    }

    public int status(int what) {
        switch (what) {
            case 0: return now.sights;
            case 1: return now.people;
            case 2: return now.dusk;
            case 3: return now.signs;
            case 4: return now.lies;
            case 5: return now.evenings;
            case 6: return tape.size;
            case 7: return now.seed;
            case 8: return shelves.filled();
            case 9: return now.knownInAll();
            case 10: return now.pairsHearing();
            default: return isWithin(what, 12, 11 + REFUSALS) ? refusals[what - 12] : NONE;
        }
    }

    private int refuse(int number) {
        int at = BAD - number;
        if (at >= 0 && at < refusals.length) {
            refusals[at]++;
        }
        return number;
    }

    private int troubleWithEvening(int s, int n) {
        return isWithin(n, 0, ROW_MOST) ? shelves.troubleWithRow(s, n) : BAD;
    }

    private int troubleWithSayings(int s, int n) {
        int trouble = troubleWithEvening(s, n);
        if (trouble != 0) {
            return trouble;
        }
        return evenings.areSayings(s, n) ? 0 : BAD;
    }

    private static boolean isRounds(int n) {
        return isWithin(n, 0, ROUNDS_MOST);
    }

    private static boolean isKind(int kind) {
        return isWithin(kind, PERSON, FORGETS);
    }

    private static boolean isShelf(int s) {
        return isWithin(s, 0, SHELVES - 1);
    }

    private static boolean isWithin(int v, int least, int most) {
        return v >= least && v <= most;
    }

    private static boolean isPart(int from, int n, int size) {
        // from + n could wrap around, so the room behind is asked for instead
        return from >= 0 && n >= 0 && from <= size && n <= size - from;
    }

    private static boolean has(int bits, int i) {
        return (bits >> i & 1) != 0;
    }

    private static int with(int bits, int i, boolean is) {
        return is ? bits | 1 << i : bits & ~(1 << i);
    }

    private static int firstOf(int bits) {
        for (int i = 0; i < 32; i++) {
            if (has(bits, i)) {
                return i;
            }
        }
        return NONE;
    }

    private static int firstBits(int bits, int n) {
        int left = bits;
        int taken = 0;
        for (int k = 0; k < n && left != 0; k++) {
            int lowest = left & -left;
            taken |= lowest;
            left &= ~lowest;
        }
        return taken;
    }

    /** The people, what they have seen and heard, and the rules by which they speak. */
    private static final class Town {
        static final int DUSK = 0;
        static final int SIGNS = 1;
        static final int LIES = 2;
        // each round that changes something adds at least one sight heard of by one
        static final int ROUNDS_TO_STILL = PEOPLE_MOST * SIGHTS_MOST + 1;

        int sights = 4;
        int people = 0;
        int dusk = 0;
        int signs = 0;
        int lies = 0;
        int evenings = 0;
        int seed = 1;
        final int[] seen = new int[PEOPLE_MOST];
        final int[] half = new int[PEOPLE_MOST];
        final int[] heard = new int[PEOPLE_MOST];
        final int[] hears = new int[PEOPLE_MOST];
        private final int[] kinds = new int[PEOPLE_MOST];
        private final int[] marks = new int[PEOPLE_MOST];
        private final int[] speeches = new int[PEOPLE_MOST];

        void become(Town other) {
            sights = other.sights;
            people = other.people;
            dusk = other.dusk;
            signs = other.signs;
            lies = other.lies;
            evenings = other.evenings;
            seed = other.seed;
            System.arraycopy(other.seen, 0, seen, 0, PEOPLE_MOST);
            System.arraycopy(other.half, 0, half, 0, PEOPLE_MOST);
            System.arraycopy(other.heard, 0, heard, 0, PEOPLE_MOST);
            System.arraycopy(other.hears, 0, hears, 0, PEOPLE_MOST);
            System.arraycopy(other.kinds, 0, kinds, 0, PEOPLE_MOST);
            System.arraycopy(other.marks, 0, marks, 0, PEOPLE_MOST);
        }

        boolean isOne(int one) {
            return one >= 0 && one < people;
        }

        boolean isSight(int sight) {
            return sight >= 0 && sight < sights;
        }

        boolean isFull() {
            return people >= PEOPLE_MOST;
        }

        int allPeople() {
            return (1 << people) - 1;
        }

        int allSights() {
            return (1 << sights) - 1;
        }

        int kindOf(int one) {
            return kinds[one];
        }

        int allBlind() {
            int bits = 0;
            for (int p = 0; p < people; p++) {
                bits = with(bits, p, kinds[p] == BLIND);
            }
            return bits;
        }

        boolean isOfKind(int one, int kind) {
            return kind == kinds[one] || kind == PERSON || kind == GUESS && kinds[one] == LIAR;
        }

        int join(int kind, int mark) {
            int one = people;
            kinds[one] = kind;
            marks[one] = mark;
            seen[one] = 0;
            half[one] = 0;
            heard[one] = 0;
            hears[one] = 0;
            people++;
            return one;
        }

        int howSeen(int one, int sight) {
            if (has(seen[one], sight)) {
                return SEEN;
            }
            return has(half[one], sight) ? HALF : NEITHER;
        }

        void putSeen(int one, int sight, int how) {
            seen[one] = with(seen[one], sight, how == SEEN);
            half[one] = with(half[one], sight, how == HALF);
        }

        void putHeard(int one, int sight, boolean is) {
            heard[one] = with(heard[one], sight, is);
        }

        void putHears(int one, int other, boolean is) {
            hears[one] = with(hears[one], other, is);
        }

        static int mostOf(int setting) {
            return setting == DUSK ? 1 : 9;
        }

        int settingOf(int setting) {
            switch (setting) {
                case DUSK: return dusk;
                case SIGNS: return signs;
                default: return lies;
            }
        }

        void putSetting(int setting, int v) {
            switch (setting) {
                case DUSK: dusk = v; break;
                case SIGNS: signs = v; break;
                default: lies = v; break;
            }
        }

        int factOf(int one, int what) {
            switch (what) {
                case 0: return kinds[one];
                case 1: return marks[one];
                case 2: return seen[one];
                case 3: return half[one];
                case 4: return heard[one];
                case 5: return hears[one];
                case 6: return knownTo(one);
                default: return barredTo(one);
            }
        }

        int sayingAs(int one, int kind) {
            switch (kind) {
                case TRUE: return Integer.bitCount(hears[one]);
                case GUESS: return sights - Integer.bitCount(barredTo(one));
                case LIAR: return firstOf(barredTo(one));
                case BLIND: return Integer.bitCount(heard[one]);
                case FORGETS: return firstOf(seen[one]);
                default: return sayableBy(one);
            }
        }

        int barredTo(int one) {
            return dusk == 1 ? seen[one] | half[one] : seen[one];
        }

        int knownTo(int one) {
            return seen[one] | half[one] | heard[one];
        }

        int sayableBy(int one) {
            int barred = barredTo(one);
            int open = allSights() & ~barred;
            switch (kinds[one]) {
                case TRUE: return heard[one] & open & vouchedFor(one);
                case GUESS: return open;
                case LIAR: return open | firstBits(barred, lies);
                default: return heard[one] & open;
            }
        }

        private int vouchedFor(int one) {
            int bits = 0;
            for (int q = 0; q < people; q++) {
                if ((hears[one] & 1 << q) != 0) {
                    bits |= heard[q] | seen[q];
                }
            }
            return bits;
        }

        int knownInAll() {
            int sum = 0;
            for (int p = 0; p < people; p++) {
                sum += Integer.bitCount(knownTo(p));
            }
            return sum;
        }

        int whoMaySay(int sight) {
            int bits = 0;
            for (int p = 0; p < people; p++) {
                bits = with(bits, p, has(sayableBy(p), sight));
            }
            return bits;
        }

        int whoIsBarred(int sight) {
            int bits = 0;
            for (int p = 0; p < people; p++) {
                bits = with(bits, p, has(barredTo(p), sight));
            }
            return bits;
        }

        int whoKnows(int sight) {
            int bits = 0;
            for (int p = 0; p < people; p++) {
                bits = with(bits, p, has(knownTo(p), sight));
            }
            return bits;
        }

        int whoIsUnheard() {
            int heardByAny = 0;
            for (int p = 0; p < people; p++) {
                heardByAny |= hears[p];
            }
            return allPeople() & ~heardByAny;
        }

        int whoMaySayMost() {
            int best = NONE;
            int most = NONE;
            for (int p = 0; p < people; p++) {
                int count = Integer.bitCount(sayableBy(p));
                if (count > most) {
                    most = count;
                    best = p;
                }
            }
            return best;
        }

        int pairsHearing() {
            int count = 0;
            for (int p = 0; p < people; p++) {
                for (int q = 0; q < p; q++) {
                    if (has(hears[p], q) && has(hears[q], p)) {
                        count++;
                    }
                }
            }
            return count;
        }

        private int hearersOf(int speakers) {
            int bits = 0;
            for (int q = 0; q < people; q++) {
                bits = with(bits, q, (hears[q] & speakers) != 0);
            }
            return bits;
        }

        int sayingsBetween(int one, int other, int sight) {
            int barred = whoIsBarred(sight);
            int reached = 1 << one;
            int speakers = reached;
            for (int steps = 0; steps < people; steps++) {
                if (has(reached, other)) {
                    return steps;
                }
                int fresh = hearersOf(speakers) & ~reached;
                reached |= fresh;
                speakers = fresh & ~barred;
            }
            return NONE;
        }

        /** All of the sights are said; how often somebody hears of one they hadn't. */
        int tell(int one, int sightBits) {
            int anew = 0;
            for (int q = 0; q < people; q++) {
                if (has(hears[q], one)) {
                    anew += Integer.bitCount(sightBits & ~heard[q]);
                    heard[q] |= sightBits;
                }
            }
            return anew;
        }

        /** Whether the round changed anything. */
        boolean passRound() {
            for (int p = 0; p < people; p++) {
                speeches[p] = sayableBy(p);
            }
            int anew = 0;
            for (int p = 0; p < people; p++) {
                anew += tell(p, speeches[p]);
            }
            return anew + passSigns() > 0;
        }

        private int passSigns() {
            int made = 0;
            for (int p = 0; p < people; p++) {
                for (int q = 0; q < people && made < signs; q++) {
                    if (has(hears[q], p)) {
                        int fresh = firstBits(seen[p] & ~heard[q], signs - made);
                        heard[q] |= fresh;
                        made += Integer.bitCount(fresh);
                    }
                }
            }
            return made;
        }

        void passRounds(int n) {
            boolean changing = true;
            for (int k = 0; k < n && changing; k++) {
                changing = passRound();
            }
        }

        void passNight() {
            evenings++;
            for (int p = 0; p < people; p++) {
                int lost = kinds[p] == FORGETS ? firstBits(seen[p], 1) : 0;
                seen[p] &= ~lost;
                heard[p] |= lost;
            }
        }

        int sayByDraws(int n) {
            int said = 0;
            for (int k = 0; k < n; k++) {
                int one = drawBelow(people);
                int sight = drawBelow(sights);
                if (isOne(one) && has(sayableBy(one), sight)) {
                    tell(one, 1 << sight);
                    said++;
                }
            }
            return said;
        }

        private int drawBelow(int n) {
            seed = seed * 1103515245 + 12345;
            return n > 0 ? (seed >>> 16) % n : 0;
        }

        void makeBlind(int one) {
            heard[one] |= seen[one] | half[one];
            seen[one] = 0;
            half[one] = 0;
            kinds[one] = BLIND;
        }

        void cutOff(int one) {
            hears[one] = 0;
            for (int p = 0; p < people; p++) {
                hears[p] = with(hears[p], one, false);
            }
        }

        void showTo(int set, int sight) {
            for (int p = 0; p < people; p++) {
                if (has(set, p)) {
                    putSeen(p, sight, SEEN);
                }
            }
        }
    }

    /** What comes of the town by rounds, tried on a town in thought. */
    private static final class Rounds {
        private final Town now;
        private final Town then;

        Rounds(Town now, Town then) {
            this.now = now;
            this.then = then;
        }

        Town after(int n) {
            then.become(now);
            then.passRounds(n);
            return then;
        }

        int untilStill() {
            then.become(now);
            for (int k = 0; k < ROUNDS_MOST; k++) {
                if (!then.passRound()) {
                    return k;
                }
            }
            return ROUNDS_MOST;
        }

        int untilKnown(int one, int sight) {
            then.become(now);
            boolean changing = true;
            for (int k = 0; k <= ROUNDS_MOST && changing; k++) {
                if (has(then.knownTo(one), sight)) {
                    return k;
                }
                changing = then.passRound();
            }
            return NONE;
        }

        int fewestToShow(int sight, int n) {
            int all = now.allPeople() & ~now.allBlind();
            for (int size = 0; size <= now.people; size++) {
                for (int set = 0; set <= all; set++) {
                    boolean isSet = (set & ~all) == 0 && Integer.bitCount(set) == size;
                    if (isSet && isHushed(set, sight, n)) {
                        return set;
                    }
                }
            }
            return NONE;
        }

        private boolean isHushed(int set, int sight, int n) {
            then.become(now);
            then.showTo(set, sight);
            boolean changing = true;
            for (int k = 0; k <= n && changing; k++) {
                if (then.whoMaySay(sight) != 0) {
                    return false;
                }
                changing = then.passRound();
            }
            return true;
        }

        int bestToTell(int sight, int n) {
            int best = NONE;
            int most = NONE;
            for (int p = 0; p < now.people; p++) {
                then.become(now);
                then.putHeard(p, sight, true);
                then.passRounds(n);
                int count = Integer.bitCount(then.whoKnows(sight));
                if (count > most) {
                    most = count;
                    best = p;
                }
            }
            return best;
        }

        int lostWithout(int one, int n) {
            then.become(now);
            int withOne = knownToOthersThen(one, n);
            then.become(now);
            then.cutOff(one);
            return withOne - knownToOthersThen(one, n);
        }

        private int knownToOthersThen(int one, int n) {
            then.passRounds(n);
            return then.knownInAll() - Integer.bitCount(then.knownTo(one));
        }

        int gainByBlind(int one, int n) {
            int before = after(n).knownInAll();
            then.become(now);
            then.makeBlind(one);
            then.passRounds(n);
            return then.knownInAll() - before;
        }

        int gainByLight(int n) {
            return knownAtDusk(0, n) - knownAtDusk(1, n);
        }

        private int knownAtDusk(int dusk, int n) {
            then.become(now);
            then.dusk = dusk;
            then.passRounds(n);
            return then.knownInAll();
        }
    }

    /** The search for the order in which everybody should speak once. */
    private static final class Orders {
        private final Town now;
        private final Town then;
        private final int[][] heardAt = new int[PEOPLE_MOST][PEOPLE_MOST];
        private final int[] path = new int[PEOPLE_MOST];
        private final int[] best = new int[PEOPLE_MOST];
        private int most = NONE;
        private int limit = 0;

        Orders(Town now, Town then) {
            this.now = now;
            this.then = then;
        }

        void search() {
            limit = knownWhenAllIsSaid();
            most = NONE;
            then.become(now);
            speakOn(this, 0, now.allPeople());
        }

        int mostKnown() {
            return most;
        }

        int speakerAt(int i) {
            return best[i];
        }

        // no order gets beyond this, so the first that reaches it ends the search
        private int knownWhenAllIsSaid() {
            then.become(now);
            then.signs = 0;
            then.passRounds(Town.ROUNDS_TO_STILL);
            return then.knownInAll();
        }

        private static void speakOn(Orders o, int depth, int left) {
            if (left == 0 || depth >= PEOPLE_MOST) {
                o.weigh();
                return;
            }
            int[] heardBefore = o.heardAt[depth];
            System.arraycopy(o.then.heard, 0, heardBefore, 0, PEOPLE_MOST);
            for (int p = 0; p < o.then.people && o.most < o.limit; p++) {
                if (has(left, p)) {
                    o.path[depth] = p;
                    o.then.tell(p, o.then.sayableBy(p));
                    speakOn(o, depth + 1, with(left, p, false));
                    System.arraycopy(heardBefore, 0, o.then.heard, 0, PEOPLE_MOST);
                }
            }
        }

        private void weigh() {
            int count = then.knownInAll();
            if (count > most) {
                most = count;
                System.arraycopy(path, 0, best, 0, PEOPLE_MOST);
            }
        }
    }

    /** Evenings of sayings that rows tell, each 10 times who and of what. */
    private static final class Evenings {
        private final Town now;
        private final Town then;
        private final Shelves shelves;

        Evenings(Town now, Town then, Shelves shelves) {
            this.now = now;
            this.then = then;
            this.shelves = shelves;
        }

        private boolean isSaying(long v) {
            return v >= 0 && v / 10 < now.people && v % 10 < now.sights;
        }

        boolean areSayings(int s, int n) {
            for (int i = 0; i < n; i++) {
                if (!isSaying(shelves.elementOf(s, i))) {
                    return false;
                }
            }
            return true;
        }

        private int speakerOf(int s, int i) {
            return (int) (shelves.elementOf(s, i) / 10);
        }

        private int sightOf(int s, int i) {
            return (int) (shelves.elementOf(s, i) % 10);
        }

        /** The town in thought is behind the evening then, if none is wrong. */
        int firstWrong(int s, int n) {
            then.become(now);
            for (int i = 0; i < n; i++) {
                if (!isSaying(shelves.elementOf(s, i))) {
                    return i;
                }
                int one = speakerOf(s, i);
                int sight = sightOf(s, i);
                if (!has(then.sayableBy(one), sight)) {
                    return i;
                }
                then.tell(one, 1 << sight);
            }
            return NONE;
        }

        int falseSayings(int s, int n) {
            int count = 0;
            for (int i = 0; i < n; i++) {
                if (has(now.barredTo(speakerOf(s, i)), sightOf(s, i))) {
                    count++;
                }
            }
            return count;
        }

        int silentOf(int s, int n, int sight) {
            int bits = 0;
            for (int q = 0; q < now.people; q++) {
                bits = with(bits, q, isSilent(q, s, n, sight));
            }
            return bits;
        }

        private boolean isSilent(int one, int s, int n, int sight) {
            boolean hasHeard = false;
            for (int i = 0; i < n; i++) {
                if (sightOf(s, i) == sight) {
                    int speaker = speakerOf(s, i);
                    if (hasHeard && speaker == one) {
                        return false;
                    }
                    hasHeard = hasHeard || has(now.hears[one], speaker);
                }
            }
            return hasHeard;
        }

        int mouthsBehind(int s, int n, int sight) {
            then.become(now);
            for (int i = 0; i < n; i++) {
                then.tell(speakerOf(s, i), 1 << sightOf(s, i));
            }
            return then.whoMaySay(sight);
        }
    }

    /** The shelves, each of which holds nothing, a row, or somebody. */
    private static final class Shelves {
        static final int BYTES = 0;
        static final int SHORTS = 1;
        static final int INTS = 2;
        static final int BOOLEANS = 4;
        static final int SOMEBODY = 10;

        // NONE, a row's sort, or SOMEBODY and the number
        private final int[] things = {NONE, NONE, NONE, NONE, NONE, NONE, NONE, NONE};
        private final int[] sizes = new int[SHELVES];
        private final long[][] rows = new long[SHELVES][ROW_MOST];

        void putRow(int s, int sort, int n) {
            things[s] = sort;
            sizes[s] = n;
            for (int i = 0; i < ROW_MOST; i++) {
                rows[s][i] = 0;
            }
        }

        void putOne(int s, int one) {
            things[s] = one == NONE ? NONE : SOMEBODY + one;
            sizes[s] = 0;
        }

        void putElement(int s, int i, long v) {
            rows[s][i] = lowestBits(things[s], v);
        }

        private static long lowestBits(int sort, long v) {
            switch (sort) {
                case BYTES: return (byte) v;
                case SHORTS: return (short) v;
                case INTS: return (int) v;
                case BOOLEANS: return v != 0 ? 1 : 0;
                default: return v;
            }
        }

        void copyElements(int p, int q, int i, int j, int n) {
            System.arraycopy(rows[p], i, rows[q], j, n);
        }

        int heldBy(int s) {
            return isShelf(s) ? things[s] : NONE;
        }

        int sizeOf(int s) {
            return isShelf(s) ? sizes[s] : 0;
        }

        long elementOf(int s, int i) {
            return isShelf(s) && i >= 0 && i < sizes[s] ? rows[s][i] : 0;
        }

        int filled() {
            int count = 0;
            for (int s = 0; s < SHELVES; s++) {
                if (things[s] != NONE) {
                    count++;
                }
            }
            return count;
        }

        void keepPeopleBelow(int people) {
            for (int s = 0; s < SHELVES; s++) {
                if (things[s] >= SOMEBODY + people) {
                    things[s] = NONE;
                }
            }
        }

        /** Why no row of n elements or more can be had from a shelf; 0: it can. */
        int troubleWithRow(int s, int n) {
            if (!isShelf(s)) {
                return BAD;
            }
            if (things[s] >= SOMEBODY) {
                return OTHER;
            }
            if (things[s] == NONE) {
                return NOTHING;
            }
            return sizes[s] < n ? BAD : 0;
        }

        int troubleWithRows(int p, int q) {
            if (!isShelf(p) || !isShelf(q)) {
                return BAD;
            }
            if (things[p] >= SOMEBODY || things[q] >= SOMEBODY) {
                return OTHER;
            }
            if (things[p] == NONE || things[q] == NONE) {
                return NOTHING;
            }
            return things[p] != things[q] ? OTHER : 0;
        }

        boolean isApart(int s, int n, int asked, int all) {
            for (int i = 0; i < n; i++) {
                for (int k = 0; k < i; k++) {
                    long unlike = elementOf(s, i) ^ elementOf(s, k);
                    if ((unlike & all) != 0 && (unlike & asked) == 0) {
                        return false;
                    }
                }
            }
            return true;
        }

        int fewestApart(int s, int n, int all) {
            for (int size = 0; size < PEOPLE_MOST; size++) {
                for (int set = 0; set <= all; set++) {
                    if (Integer.bitCount(set) == size && isApart(s, n, set, all)) {
                        return set;
                    }
                }
            }
            return all;
        }
    }

    /** The tape and how a town is read from it, token by token. */
    private static final class Tape {
        private static final int END = 0;
        private static final int WORD = 1;
        private static final int NUMBER = 2;
        private static final int SEMICOLON = 3;
        private static final int STRANGE = 4;

        int size = 0;
        int fault = 0;
        private final int[] letters = new int[TAPE_MOST];
        // the token ahead: its sort, its first place, the place behind it
        private int sort = END;
        private int start = 0;
        private int end = 0;

        void put(int letter) {
            if (size < TAPE_MOST) {
                letters[size] = letter;
                size++;
            }
        }

        /** How many statements; NONE: a fault. */
        int readInto(Town town) {
            end = 0;
            advance();
            for (int count = 1; count <= TAPE_MOST; count++) {
                if (!readStatement(town)) {
                    return NONE;
                }
                if (sort == END) {
                    return count;
                }
                if (sort != SEMICOLON) {
                    fault = start;
                    return NONE;
                }
                advance();
            }
            fault = start;
            return NONE;
        }

        private int letterAt(int place) {
            return place >= 0 && place < size && place < TAPE_MOST ? letters[place] : NONE;
        }

        private static int sortOf(int letter) {
            if (letter >= 'a' && letter <= 'z') {
                return WORD;
            }
            if (letter >= '0' && letter <= '9') {
                return NUMBER;
            }
            return letter == ';' ? SEMICOLON : STRANGE;
        }

        private void advance() {
            start = end;
            while (start < size && letterAt(start) == ' ') {
                start++;
            }
            end = start;
            if (start >= size) {
                sort = END;
                return;
            }
            sort = sortOf(letterAt(start));
            end++;
            if (sort == WORD || sort == NUMBER) {
                while (end < size && sortOf(letterAt(end)) == sort) {
                    end++;
                }
            }
        }

        private boolean isWord(String word) {
            if (sort != WORD || end - start != word.length()) {
                return false;
            }
            for (int i = 0; i < word.length(); i++) {
                if (letterAt(start + i) != word.charAt(i)) {
                    return false;
                }
            }
            return true;
        }

        private boolean isFault() {
            fault = start;
            return false;
        }

        /** A number within bounds that is none of some; NONE: a fault. */
        private int takeNumber(int least, int most, int exceptBits) {
            int v = 0;
            for (int i = start; i < end && i < start + 2; i++) {
                v = v * 10 + letterAt(i) - '0';
            }
            boolean isGood = sort == NUMBER && end - start <= 2 && isWithin(v, least, most);
            if (!isGood || has(exceptBits, v)) {
                fault = start;
                return NONE;
            }
            advance();
            return v;
        }

        private boolean readStatement(Town town) {
            if (isWord("sights")) {
                return readSights(town);
            }
            if (isWord("person")) {
                return town.isFull() ? isFault() : readPerson(town);
            }
            if (isWord("saw")) {
                return readSeen(town, SEEN);
            }
            if (isWord("half")) {
                return readSeen(town, HALF);
            }
            if (isWord("heard")) {
                return readHeard(town);
            }
            if (isWord("hears")) {
                return readHears(town);
            }
            if (isWord("dusk")) {
                return readSetting(town, Town.DUSK);
            }
            if (isWord("signs")) {
                return readSetting(town, Town.SIGNS);
            }
            return isWord("lies") ? readSetting(town, Town.LIES) : isFault();
        }

        private boolean readSights(Town town) {
            advance();
            int n = takeNumber(town.sights, SIGHTS_MOST, 0);
            if (n == NONE) {
                return false;
            }
            town.sights = n;
            return true;
        }

        private boolean readPerson(Town town) {
            advance();
            int kind = takeNumber(PERSON, FORGETS, 0);
            int mark = kind == NONE ? NONE : takeNumber(0, 9, 0);
            if (mark == NONE) {
                return false;
            }
            int one = town.join(kind, mark);
            if (isWord("saw")) {
                if (kind == BLIND) {
                    return isFault();
                }
                advance();
                if (!readSightSeen(town, one, SEEN)) {
                    return false;
                }
            }
            if (isWord("heard")) {
                advance();
                return readSightHeard(town, one);
            }
            return true;
        }

        private boolean readSeen(Town town, int how) {
            advance();
            int one = takeNumber(0, town.people - 1, town.allBlind());
            return one != NONE && readSightSeen(town, one, how);
        }

        private boolean readHeard(Town town) {
            advance();
            int one = takeNumber(0, town.people - 1, 0);
            return one != NONE && readSightHeard(town, one);
        }

        private boolean readSightSeen(Town town, int one, int how) {
            int sight = takeNumber(0, town.sights - 1, 0);
            if (sight == NONE) {
                return false;
            }
            town.putSeen(one, sight, how);
            return true;
        }

        private boolean readSightHeard(Town town, int one) {
            int sight = takeNumber(0, town.sights - 1, 0);
            if (sight == NONE) {
                return false;
            }
            town.putHeard(one, sight, true);
            return true;
        }

        private boolean readHears(Town town) {
            advance();
            int one = takeNumber(0, town.people - 1, 0);
            if (one == NONE) {
                return false;
            }
            int other = takeNumber(0, town.people - 1, 1 << one);
            if (other == NONE) {
                return false;
            }
            town.putHears(one, other, true);
            return true;
        }

        private boolean readSetting(Town town, int setting) {
            advance();
            int v = takeNumber(0, Town.mostOf(setting), 0);
            if (v == NONE) {
                return false;
            }
            town.putSetting(setting, v);
            return true;
        }
    }
}
