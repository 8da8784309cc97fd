/** EVENINGS, whom to ask, draws, nights and what is kept: boundary cases of 2. and 3. and of promises 41 to 55, a function for each sentence. */
public final class EveningEdgesTest {
    private static final int PERSON = 0;
    private static final int TRUE = 1;
    private static final int GUESS = 2;
    private static final int LIAR = 3;
    private static final int BLIND = 4;
    private static final int FORGETS = 5;
    private static final int LONGS = 3;
    private static final Check check = new Check();

    private static OnlyUnseen sevenWhoGuess() {
        return Check.of(8, GUESS, GUESS, GUESS, GUESS, GUESS, GUESS, GUESS);
    }

    private static void asked(String name, int whom, int[] sets) {
        OnlyUnseen x = Check.withRow(sevenWhoGuess(), sets);
        int n = sets.length;
        check.due("whom, " + name, x.whom(0, n), whom);
        for (int set = 0; set < 128; set++) {
            // what those asked would answer, of each two sets
            int apart = 1;
            for (int a : sets) {
                for (int b : sets) {
                    apart = (a & 127) != (b & 127) && (a & set) == (b & set) ? 0 : apart;
                }
            }
            check.due("parts " + set + ", " + name, x.parts(0, n, set), apart);
            check.due("fewer don't part, " + name, apart == 1 && Integer.bitCount(set) < Integer.bitCount(whom) ? 1 : 0, 0);
            check.due("less don't part, " + name, apart == 1 && Integer.bitCount(set) == Integer.bitCount(whom)
                && set < whom ? 1 : 0, 0);
        }
    }

    private static void askIsOfTheFewestAndTheLeast() {
        asked("one set", 0, new int[] {127});
        asked("sets that are like", 0, new int[] {5, 5, 5});
        asked("like but for what is no one's", 0, new int[] {5, 128 + 5, -128 + 5});
        asked("two", 1, new int[] {1, 0});
        asked("two by the last", 64, new int[] {64, 0});
        asked("two by any", 1, new int[] {0, 127});
        asked("three", 3, new int[] {1, 2, 4});
        asked("one alone of more bits", 64, new int[] {64 + 3, 3});
        asked("all seven", 127, new int[] {0, 1, 2, 4, 8, 16, 32, 64});
        asked("six of seven", 63, new int[] {1, 2, 4, 8, 16, 32, 64});
        asked("ten", 15, new int[] {0, 1, 2, 3, 4, 5, 6, 7, 8, 9});
        asked("ten by the upper", 120, new int[] {0, 8, 16, 24, 32, 40, 48, 56, 64, 72});
    }

    private static void askIsByTheFirstElements() {
        OnlyUnseen x = Check.withRow(sevenWhoGuess(), 1, 1, 1, 1, 1, 1, 1, 1, 1, 2, 4);
        check.due("by one", x.whom(0, 1), 0);
        check.due("by nine", x.whom(0, 9), 0);
        check.due("by ten", x.whom(0, 10), 1);
        check.due("by eleven", x.whom(0, 11), -2);
        check.due("by none", x.whom(0, 0), -2);
        check.due("parts by nine", x.parts(0, 9, 0), 1);
        check.due("parts by ten", x.parts(0, 10, 0), 0);
        check.due("parts by eleven", x.parts(0, 11, 0), -2);
    }

    private static void askOfNobodyAndOfLongs() {
        OnlyUnseen x = Check.of(4);
        x.row(0, LONGS, 2);
        x.set(0, 0, -1);
        check.due("nobody to ask", x.whom(0, 2), 0);
        check.due("nobody's sets are like", x.parts(0, 2, 0), 1);
        check.due("a set of nobody there", x.parts(0, 2, 1), -2);
        x.person(0, 0);
        check.due("one to ask", x.whom(0, 2), 1);
        check.due("a set of one", x.parts(0, 2, 1), 1);
        check.due("a set of two", x.parts(0, 2, 2), -2);
        x.set(0, 0, 1L << 32);
        check.due("far bits", x.whom(0, 2), 0);
        x.set(0, 0, Long.MIN_VALUE);
        check.due("the farthest bit", x.parts(0, 2, 0), 1);
    }

    private static void anEveningOfNone() {
        OnlyUnseen x = Check.of(4, GUESS, PERSON);
        x.near(1, 0, true);
        x.hear(1, 2, true);
        for (int sort = 0; sort < 5; sort++) {
            x.row(0, sort, 0);
            check.due("judge", x.judge(0, 0), -1);
            check.due("heard", x.heard(0, 0, 1), 4);
            check.due("falsely", x.falsely(0, 0), 0);
            check.due("surely", x.surely(0, 0, 0), 0);
            check.due("free", x.free(0, 0, 0), 0);
            check.due("evening", x.evening(0, 0), 1);
        }
        check.due("nothing is refused", x.status(12) + x.status(15), 0);
        OnlyUnseen y = Check.of(4, GUESS, GUESS, GUESS);
        y.near(1, 0, true);
        y.near(2, 0, true);
        y.see(2, 0, 2);
        // the element behind, and nought ahead of the first, are SAYINGS of 0 by 0
        y.row(0, 0, 1);
        check.due("surely of what isn't in it", y.surely(0, 0, 0), 0);
        check.due("free of what isn't in it", y.free(0, 0, 0), 0);
        check.due("surely of what is", y.surely(0, 1, 0), 4);
        check.due("free of what is", y.free(0, 1, 0), 2);
    }

    private static void anEveningOfForty() {
        OnlyUnseen x = Check.of(8, GUESS, PERSON);
        x.near(1, 0, true);
        x.row(0, 0, 40);
        check.due("forty that may be", x.judge(0, 40), -1);
        for (int i = 0; i < 40; i++) {
            x.set(0, i, 20);
            check.due("wrong at " + i, x.judge(0, 40), i);
            check.due("right ahead of " + i, x.judge(0, i), -1);
            check.due("wrong by the last " + i, x.judge(0, i + 1), i);
            x.set(0, i, 0);
        }
        x.set(0, 39, 7);
        check.due("heard ahead of the last", x.heard(0, 39, 1), 1);
        check.due("heard of the last", x.heard(0, 40, 1), 129);
        check.due("nothing is said", x.known(), 0);
        check.due("said", x.evening(0, 40), 2);
        check.due("forty-one", x.evening(0, 41), -2);
    }

    private static void wrongIsWhatIsNoSaying() {
        for (int people = 1; people <= 7; people++) {
            for (int sights = 4; sights <= 8; sights++) {
                OnlyUnseen x = new OnlyUnseen();
                x.sights(sights);
                for (int p = 0; p < people; p++) {
                    x.person(GUESS, 0);
                }
                x.row(0, 2, 1);
                int[] sayings = {
                    -1, -10, 0, sights - 1, sights, 9, 10 * people - 10, 10 * people - 10 + sights - 1,
                    10 * people - 10 + sights, 10 * people - 1, 10 * people, Integer.MAX_VALUE, Integer.MIN_VALUE,
                };
                boolean[] are = {
                    false, false, true, true, false, false, true, true, false, false, false, false, false,
                };
                for (int k = 0; k < sayings.length; k++) {
                    x.set(0, 0, sayings[k]);
                    String of = " " + sayings[k] + " of " + people + " and " + sights;
                    check.due("judge" + of, x.judge(0, 1), are[k] ? -1 : 0);
                    check.due("falsely" + of, x.falsely(0, 1), are[k] ? 0 : -2);
                    check.due("surely" + of, x.surely(0, 1, 0), are[k] ? 0 : -2);
                    check.due("free" + of, x.free(0, 1, 0), are[k] ? 0 : -2);
                }
            }
        }
    }

    private static void noSayingOfNobody() {
        OnlyUnseen x = Check.of(4);
        x.row(0, 0, 1);
        check.due("judge", x.judge(0, 1), 0);
        check.due("falsely", x.falsely(0, 1), -2);
        check.due("surely", x.surely(0, 1, 0), -2);
        check.due("free", x.free(0, 1, 0), -2);
        check.due("evening", x.evening(0, 1), -5);
        check.due("heard by nobody", x.heard(0, 1, 0), -2);
        check.due("judge none", x.judge(0, 0), -1);
        check.due("falsely none", x.falsely(0, 0), 0);
        check.due("surely none", x.surely(0, 0, 0), 0);
        check.due("free none", x.free(0, 0, 0), 0);
        check.due("evening of none", x.evening(0, 0), 0);
    }

    private static void sayingsComeOneAfterTheOther() {
        OnlyUnseen x = Check.of(4, PERSON, PERSON, TRUE);
        x.hear(0, 1, true);
        x.near(1, 0, true);
        x.near(2, 1, true);
        check.due("each by the one ahead", Check.withRow(x, 1, 11, 21).judge(0, 3), -1);
        check.due("too early", Check.withRow(x, 11, 1).judge(0, 2), 0);
        check.due("the second of two that are wrong", Check.withRow(x, 1, 12, 13).judge(0, 3), 1);
        check.due("who is true by one who has heard", Check.withRow(x, 1, 11, 21, 21).heard(0, 4, 2), 2);
        x.see(1, 1, 2);
        check.due("heard but seen", Check.withRow(x, 1, 11).judge(0, 2), 1);
        check.due("heard of a wrong one", x.heard(0, 2, 0), -5);
        check.due("evening of a wrong one", x.evening(0, 2), -5);
        check.due("not even the first is said", x.personOf(1, 4), 0);
        check.due("the first alone", x.evening(0, 1), 2);
        check.due("said", x.personOf(1, 4), 2);
    }

    private static void falseIsOfWhatIsBarredWithoutRegardToOrder() {
        OnlyUnseen x = Check.of(4, LIAR, PERSON, BLIND);
        x.see(0, 0, 2);
        x.see(0, 1, 1);
        x.see(1, 0, 2);
        x.ask(2, 9);
        check.due("each time", Check.withRow(x, 0, 0, 0).falsely(0, 3), 3);
        check.due("the first alone", x.falsely(0, 1), 1);
        check.due("whether it may be or not", Check.withRow(x, 0, 10, 20).falsely(0, 3), 2);
        check.due("half by day", Check.withRow(x, 1).falsely(0, 1), 0);
        x.ask(0, 1);
        check.due("half at dusk", x.falsely(0, 1), 1);
        check.due("any order", Check.withRow(x, 11, 1, 13, 0).falsely(0, 4), 2);
        x.row(0, 0, 40);
        check.due("forty", x.falsely(0, 40), 40);
    }

    private static void silent(String name, OnlyUnseen x, int bits) {
        int n = 0;
        while (n < 40 && x.element(0, n) != 99) {
            n++;
        }
        check.due("silent, " + name, x.surely(0, n, 3) | x.free(0, n, 3), bits);
    }

    private static void silentIsWhoHearsAndDoesNotAnswer() {
        // who guesses may always say it, so each who is silent is told by free() or by surely()
        OnlyUnseen x = Check.of(4, GUESS, GUESS, GUESS);
        x.near(1, 0, true);
        x.near(2, 1, true);
        x.see(2, 3, 2);
        silent("said by one heard", Check.withRow(x, 3, 99), 2);
        silent("said by one heard, seen", Check.withRow(x, 13, 99), 4);
        silent("said by one not heard", Check.withRow(x, 23, 99), 0);
        silent("another sight", Check.withRow(x, 2, 99), 0);
        silent("answered at once", Check.withRow(x, 3, 13, 99), 4);
        silent("answered at last", Check.withRow(x, 3, 2, 3, 20, 13, 99), 4);
        silent("spoken ahead alone", Check.withRow(x, 13, 3, 99), 6);
        silent("spoken ahead and behind", Check.withRow(x, 13, 3, 13, 99), 4);
        silent("answered another sight", Check.withRow(x, 3, 12, 99), 2);
        silent("answered the first, not the last", Check.withRow(x, 3, 13, 3, 99), 4);
        silent("both answered", Check.withRow(x, 3, 13, 23, 99), 0);
        silent("ahead of the one whom they hear, behind another", Check.withRow(x, 23, 13, 3, 99), 6);
        check.due("the answer is behind n", Check.withRow(x, 3, 13).free(0, 1, 3), 2);
        check.due("the answer is the last", x.free(0, 2, 3), 0);
        OnlyUnseen y = Check.of(4, GUESS, GUESS, GUESS, GUESS, GUESS, GUESS, GUESS);
        for (int p = 0; p < 6; p++) {
            y.near(p, 6, true);
        }
        silent("all but who said it", Check.withRow(y, 63, 99), 63);
        silent("all but the first, who answered", Check.withRow(y, 63, 3, 99), 62);
    }

    private static void surelyIsToWhomItIsBarredAndFreeWhoMaySay() {
        OnlyUnseen x = Check.of(4, GUESS, PERSON, TRUE, LIAR, BLIND, FORGETS, PERSON);
        for (int q = 1; q < 7; q++) {
            x.near(q, 0, true);
        }
        x.see(3, 3, 2);
        x.see(6, 3, 1);
        x.ask(2, 9);
        Check.withRow(x, 3);
        check.due("surely by day", x.surely(0, 1, 3), 8);
        check.due("free by day", x.free(0, 1, 3), 2 + 16 + 32 + 64);
        x.ask(0, 1);
        check.due("surely at dusk", x.surely(0, 1, 3), 8 + 64);
        check.due("free at dusk", x.free(0, 1, 3), 2 + 16 + 32);
        x.near(2, 1, true);
        check.due("who is true by one who has heard of it then", x.free(0, 1, 3), 2 + 4 + 16 + 32);
        check.due("in thought alone", x.personOf(1, 4), 0);
        OnlyUnseen y = Check.of(4, PERSON, PERSON, TRUE, PERSON);
        y.near(2, 0, true);
        y.near(2, 1, true);
        y.near(1, 3, true);
        Check.withRow(y, 3, 33);
        check.due("nobody vouches for it ahead of the last", y.free(0, 1, 3), 0);
        check.due("at the end one does", y.free(0, 2, 3), 2 + 4);
        y.near(1, 3, false);
        y.near(2, 3, true);
        y.near(1, 0, true);
        check.due("who said it, not having heard of it, doesn't", Check.withRow(y, 30).free(0, 1, 0), 0);
    }

    /** The document's DRAW by longs. */
    private static final class Draws {
        private long seed;

        Draws(int seed) {
            this.seed = seed & 0xFFFFFFFFL;
        }

        int below(int n) {
            seed = (seed * 1103515245L + 12345L) & 0xFFFFFFFFL;
            return (int) (seed / 65536 % n);
        }
    }

    private static void drawsWrapAround() {
        int[] seeds = {1, 0, -1, Integer.MAX_VALUE, Integer.MIN_VALUE, 65536, -65537, 123456789};
        for (int seed : seeds) {
            for (int people = 1; people <= 7; people += 3) {
                OnlyUnseen x = new OnlyUnseen();
                x.sights(7);
                for (int p = 0; p < people; p++) {
                    x.person(GUESS, 0);
                }
                if (people < 7) {
                    x.person(PERSON, 0);
                }
                drawn(x, seed);
            }
        }
    }

    private static void drawn(OnlyUnseen x, int seed) {
        int people = x.status(1);
        for (int p = 0; p < people; p++) {
            for (int q = 0; q < people; q++) {
                x.near(p, q, p != q);
            }
        }
        x.seed(seed);
        Draws draws = new Draws(seed);
        int[] heard = new int[people];
        for (int k = 0; k < 12; k++) {
            int p = draws.below(people);
            int sight = draws.below(7);
            boolean may = x.personOf(p, 0) == GUESS || (heard[p] >> sight & 1) == 1;
            for (int q = 0; q < people && may; q++) {
                heard[q] |= q == p ? 0 : 1 << sight;
            }
            check.due("said by " + seed + " " + k, x.talk(1), may ? 1 : 0);
            check.due("seed by " + seed + " " + k, x.status(7), (int) draws.seed);
            for (int q = 0; q < people; q++) {
                check.due("heard by " + seed + " " + k, x.personOf(q, 4), heard[q]);
            }
        }
    }

    private static void talkOfOneToForty() {
        for (int n = 1; n <= 40; n += 39) {
            OnlyUnseen x = Check.of(8, GUESS);
            Draws draws = new Draws(1);
            for (int k = 0; k < 2 * n; k++) {
                draws.below(1);
            }
            check.due("talk of " + n, x.talk(n), n);
            check.due("seed behind " + n, x.status(7), (int) draws.seed);
            OnlyUnseen y = Check.of(8, PERSON);
            check.due("nothing that may be of " + n, y.talk(n), 0);
            check.due("drawn still, of " + n, y.status(7), (int) draws.seed);
        }
        OnlyUnseen z = Check.of(4);
        check.due("nobody", z.talk(1), -5);
        check.due("nothing is drawn", z.status(7), 1);
        check.due("too many", z.talk(41), -2);
        check.due("none", z.talk(0), -2);
        check.due("no evening by that", z.status(5), 0);
    }

    private static void nightTakesTheFirstSeen() {
        for (int kind = 0; kind < 6; kind++) {
            if (kind != BLIND) {
                OnlyUnseen x = Check.of(8, kind);
                for (int sight = 0; sight < 8; sight++) {
                    x.see(0, sight, sight == 1 ? 1 : 2);
                }
                for (int night = 1; night <= 9; night++) {
                    check.due("night " + night, x.night(), night);
                    int gone = kind != FORGETS ? 0 : night == 1 ? 1 : (2 << Math.min(night, 7)) - 1 & ~2;
                    check.due("seen behind " + night, x.personOf(0, 2), 0xfd & ~gone);
                    check.due("heard behind " + night, x.personOf(0, 4), gone);
                    check.due("half seen behind " + night, x.personOf(0, 3), 2);
                    check.due("known behind " + night, x.known(), 8);
                }
            }
        }
        OnlyUnseen y = Check.of(4, FORGETS, FORGETS);
        y.see(1, 3, 2);
        y.hear(1, 3, true);
        check.due("the last, heard of already", y.night(), 1);
        check.due("not seen then", y.personOf(1, 2) * 10 + y.personOf(1, 4), 8);
        check.due("who has seen nothing", y.personOf(0, 6), 0);
        check.due("nobody", new OnlyUnseen().night(), 1);
    }

    private static void seedIsAnyInt() {
        OnlyUnseen x = new OnlyUnseen();
        int before = 1;
        for (int v : new int[] {0, -1, Integer.MIN_VALUE, Integer.MAX_VALUE, 1}) {
            check.due("seed " + v, x.seed(v), before);
            check.due("status " + v, x.status(7), v);
            before = v;
        }
    }

    private static void imageKeepsAllButTapeShelvesAndRefusals() {
        OnlyUnseen x = Trial.square();
        x.image();
        OnlyUnseen y = Trial.square();
        change(x);
        x.status(99);
        check.due("back", x.back(), 1);
        for (int what = 0; what <= 5; what++) {
            check.due("back: status " + what, x.status(what), y.status(what));
        }
        check.due("back: seed", x.status(7), 77);
        for (int one = 0; one < 6; one++) {
            for (int what = 0; what < 8; what++) {
                check.due("back: personOf " + one + " " + what, x.personOf(one, what), y.personOf(one, what));
            }
        }
        check.due("the tape is not kept", x.status(6), 7);
        check.due("rows are not kept", x.element(0, 0), 33);
        check.due("nothing is not kept", x.holds(3), 4);
        check.due("somebody who is there", x.holds(2), 15);
        check.due("somebody who is not", x.holds(6), -1);
        check.due("shelves", x.status(8), 7);
        for (int what = 12; what <= 16; what++) {
            check.due("refusals aren't kept " + what, x.status(what), what == 12 ? 3 : 1);
        }
        check.due("back again", x.back(), 1);
        check.due("the last there is", x.show(6, 5), 1);
        check.due("back once more", x.back(), 1);
        check.due("the last there is, shown", x.holds(6), 15);
    }

    private static void change(OnlyUnseen x) {
        x.sights(8);
        x.person(0, 0);
        x.see(0, 1, 2);
        x.hear(2, 0, true);
        x.near(0, 5, true);
        x.ask(0, 1);
        x.ask(1, 9);
        x.ask(2, 9);
        x.seed(-3);
        x.night();
        x.round();
        x.feed('x');
        x.set(0, 0, 33);
        x.row(3, 4, 1);
        x.show(2, 5);
        x.show(6, 6);
        x.sights(9);
        x.sights(0);
        x.personOf(7, 0);
        x.set(2, 0, 0);
        x.show(7, -1);
        x.set(7, 0, 0);
        x.row(7, 0, 0);
        x.see(4, 0, 2);
        x.person(0, 0);
    }

    private static void backToNobody() {
        OnlyUnseen x = new OnlyUnseen();
        check.due("nothing kept", x.back(), -5);
        check.due("image of nobody", x.image(), 1);
        for (int p = 0; p < 7; p++) {
            x.person(GUESS, 0);
            x.show(p, p);
        }
        x.sights(8);
        check.due("back to nobody", x.back(), 1);
        check.due("nobody", x.status(1), 0);
        check.due("fewer sights again", x.status(0), 4);
        check.due("no shelf holds anybody", x.status(8), 0);
        for (int s = 0; s < 8; s++) {
            check.due("nothing in " + s, x.holds(s), -1);
        }
        x.person(GUESS, 0);
        check.due("another image", x.image(), 1);
        x.person(GUESS, 0);
        x.back();
        check.due("back to the last image", x.status(1), 1);
    }

    private static void statusCountsEachRefusalOfItsOwn() {
        OnlyUnseen x = Trial.full();
        x.row(0, 0, 0);
        x.show(1, 0);
        for (int k = 1; k <= 20; k++) {
            x.row(8, 0, 0);
            check.due("bad", x.status(12), k);
            x.set(1, 0, 0);
            check.due("other", x.status(13), k);
            x.set(2, 0, 0);
            check.due("nothing", x.status(14), k);
            x.back();
            check.due("stuck", x.status(15), k);
            x.person(0, 0);
            check.due("full", x.status(16), k);
        }
        x.town();
        x.blind(9, 9);
        x.dusk(-1);
        check.due("bad by other numbers", x.status(12), 23);
        check.due("others as they were", x.status(13) + x.status(14) + x.status(15) + x.status(16), 80);
        for (int what : new int[] {11, -1, 17, Integer.MIN_VALUE, Integer.MAX_VALUE}) {
            check.due("status " + what, x.status(what), -1);
        }
        check.due("status isn't refused", x.status(12), 23);
    }

    public static void main(String[] args) {
        askIsOfTheFewestAndTheLeast();
        askIsByTheFirstElements();
        askOfNobodyAndOfLongs();
        anEveningOfNone();
        anEveningOfForty();
        wrongIsWhatIsNoSaying();
        noSayingOfNobody();
        sayingsComeOneAfterTheOther();
        falseIsOfWhatIsBarredWithoutRegardToOrder();
        silentIsWhoHearsAndDoesNotAnswer();
        surelyIsToWhomItIsBarredAndFreeWhoMaySay();
        drawsWrapAround();
        talkOfOneToForty();
        nightTakesTheFirstSeen();
        seedIsAnyInt();
        imageKeepsAllButTapeShelvesAndRefusals();
        backToNobody();
        statusCountsEachRefusalOfItsOwn();
        check.end("EveningEdgesTest");
    }
}
