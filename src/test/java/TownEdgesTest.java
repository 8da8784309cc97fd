/** People, what they MAY say, SAYINGS and SIGNS: the boundary cases of 1. and 2., a function for each sentence. */
public final class TownEdgesTest {
    private static final int PERSON = 0;
    private static final int TRUE = 1;
    private static final int GUESS = 2;
    private static final int LIAR = 3;
    private static final int BLIND = 4;
    private static final int FORGETS = 5;
    private static final Check check = new Check();

    private static int bitsOfMay(OnlyUnseen x, int one) {
        int bits = 0;
        for (int sight = 0; sight < x.status(0); sight++) {
            bits |= x.may(one, sight) << sight;
        }
        return bits;
    }

    private static void fourSightsAtFirstEightAtMost() {
        OnlyUnseen x = new OnlyUnseen();
        x.person(GUESS, 0);
        for (int n = 4; n <= 8; n++) {
            check.due("sights " + n, x.sights(n), Math.max(4, n - 1));
            check.due("sights as many " + n, x.sights(n), n);
            check.due("status " + n, x.status(0), n);
            check.due("the last may be said", x.may(0, n - 1), 1);
            check.due("one beyond may not be", x.may(0, n), -2);
            check.due("one fewer", x.sights(n - 1), -2);
            check.due("all may be said", x.loudest(), 0);
            x.show(0, 0);
            check.due("as many aren't barred", x.says(0, GUESS), n);
            check.due("bits of all", x.says(0, PERSON), (1 << n) - 1);
        }
        check.due("nine", x.sights(9), -2);
        check.due("eight still", x.status(0), 8);
        check.due("none", x.sights(0), -2);
        check.due("one", x.sights(1), -2);
    }

    private static void allEightSights() {
        OnlyUnseen x = Check.of(8, PERSON, PERSON, PERSON);
        for (int sight = 0; sight < 8; sight++) {
            check.due("see " + sight, x.see(0, sight, 2), 0);
            check.due("half " + sight, x.see(1, sight, 1), 0);
            check.due("hear " + sight, x.hear(2, sight, true), 1);
        }
        check.due("seen all", x.personOf(0, 2), 255);
        check.due("half seen all", x.personOf(1, 3), 255);
        check.due("heard of all", x.personOf(2, 4), 255);
        check.due("known in all", x.known(), 24);
        check.due("barred of all", x.personOf(0, 7) * 10 + x.personOf(1, 7), 2550);
        check.due("may say all", bitsOfMay(x, 2), 255);
        check.due("barred the last", x.barred(7), 1);
        x.ask(0, 1);
        check.due("barred the last at dusk", x.barred(7), 3);
        check.due("barred the last of all at dusk", x.personOf(1, 7), 255);
    }

    private static void sevenPeopleAtMost() {
        OnlyUnseen x = new OnlyUnseen();
        for (int p = 0; p < 7; p++) {
            check.due("nobody of number " + p, x.personOf(p, 0), -2);
            check.due("person " + p, x.person(p % 6, p + 3), p);
            check.due("how many", x.status(1), p + 1);
        }
        check.due("full", x.person(0, 0), -6);
        check.due("seven", x.status(1), 7);
        check.due("nobody of number 7", x.personOf(7, 0), -2);
        for (int p = 0; p < 7; p++) {
            check.due("kind of " + p, x.personOf(p, 0), p % 6);
            check.due("a of " + p, x.personOf(p, 1), p + 3);
        }
        for (int p = 0; p < 7; p++) {
            for (int q = 0; q < 7; q++) {
                check.due("near " + p + " " + q, x.near(p, q, true), p == q ? -2 : 1);
            }
            check.due("hears all others", x.personOf(p, 5), 127 & ~(1 << p));
        }
        check.due("all pairs", x.pairs(), 21);
        check.due("all pairs by status", x.status(10), 21);
        check.due("nobody is alone", x.alone(), 0);
    }

    private static void nothingAtFirst() {
        for (int kind = 0; kind < 6; kind++) {
            OnlyUnseen x = Check.of(8, kind);
            for (int what = 2; what < 8; what++) {
                check.due("at first " + kind + " " + what, x.personOf(0, what), 0);
            }
            check.due("known at first", x.known(), 0);
            check.due("alone at first", x.alone(), 1);
        }
    }

    private static void nothingAtFirstForANumberThatWasAnothers() {
        OnlyUnseen x = Check.of(4, PERSON);
        x.image();
        x.person(PERSON, 9);
        x.see(1, 0, 2);
        x.see(1, 1, 1);
        x.hear(1, 2, true);
        x.near(1, 0, true);
        x.near(0, 1, true);
        x.back();
        check.due("the number again", x.person(BLIND, 0), 1);
        for (int what = 1; what < 8; what++) {
            check.due("again at first " + what, x.personOf(1, what), 0);
        }
        check.due("nobody hears them", x.personOf(0, 5), 0);
        check.due("a town gives it, too", x.back() + Check.read(x, "person 0 0"), 2);
        check.due("nothing of it", x.personOf(1, 6) + x.personOf(1, 5), 0);
    }

    private static void seenHalfOrNeither() {
        OnlyUnseen x = Check.of(4, PERSON);
        for (int was = 0; was < 3; was++) {
            for (int how = 0; how < 3; how++) {
                x.see(0, 2, was);
                check.due("see " + was + " " + how, x.see(0, 2, how), was);
                check.due("seen " + was + " " + how, x.personOf(0, 2), how == 2 ? 4 : 0);
                check.due("half " + was + " " + how, x.personOf(0, 3), how == 1 ? 4 : 0);
                check.due("known " + was + " " + how, x.known(), how == 0 ? 0 : 1);
            }
        }
        check.due("heard is another thing", x.personOf(0, 4), 0);
    }

    private static void duskIsNoughtAtFirstAndBarsNothingHalfSeen() {
        OnlyUnseen x = Check.of(4, PERSON);
        x.see(0, 0, 1);
        x.hear(0, 0, true);
        check.due("by day", x.may(0, 0) * 10 + x.barred(0), 10);
        check.due("dusk", x.ask(0, 1), 0);
        check.due("at dusk", x.may(0, 0) * 10 + x.barred(0), 1);
        check.due("dusk again", x.ask(0, 1), 1);
        check.due("day", x.ask(0, 0), 1);
        check.due("by day again", x.may(0, 0) * 10 + x.barred(0), 10);
        x.see(0, 0, 2);
        check.due("seen by day", x.may(0, 0) * 10 + x.barred(0), 1);
    }

    private static void settingsAreNoughtAtFirst() {
        OnlyUnseen x = new OnlyUnseen();
        for (int what = 0; what < 3; what++) {
            int most = what == 0 ? 1 : 9;
            check.due("at first " + what, x.status(2 + what), 0);
            for (int v = 0; v <= most; v++) {
                check.due("ask " + what + " " + v, x.ask(what, v), Math.max(0, v - 1));
                check.due("status " + what + " " + v, x.status(2 + what), v);
            }
            check.due("one beyond " + what, x.ask(what, most + 1), -2);
            check.due("as it was " + what, x.status(2 + what), most);
        }
        check.due("each of its own", x.status(2) * 100 + x.status(3) * 10 + x.status(4), 199);
    }

    private static void aPersonMaySayWhatTheyHaveHeardOf() {
        for (int kind : new int[] {PERSON, FORGETS}) {
            for (int how = 0; how < 3; how++) {
                for (int dusk = 0; dusk < 2; dusk++) {
                    OnlyUnseen x = Check.of(4, kind);
                    x.ask(0, dusk);
                    x.see(0, 3, how);
                    check.due("unheard", bitsOfMay(x, 0), 0);
                    x.hear(0, 3, true);
                    check.due("heard " + how + " at " + dusk, bitsOfMay(x, 0), how + dusk < 2 ? 8 : 0);
                }
            }
        }
    }

    private static void trueOnesNeedOneWhomTheyHear() {
        OnlyUnseen x = Check.of(4, TRUE, PERSON, PERSON, PERSON, PERSON, PERSON, PERSON);
        x.hear(0, 2, true);
        check.due("hears nobody", x.may(0, 2), 0);
        x.hear(1, 2, true);
        x.near(1, 0, true);
        check.due("one who hears them is not it", x.may(0, 2), 0);
        x.near(0, 6, true);
        check.due("one who hasn't", x.may(0, 2), 0);
        x.see(6, 2, 1);
        check.due("one who has half seen it", x.may(0, 2), 0);
        x.hear(6, 1, true);
        check.due("one who has heard of another", x.may(0, 2), 0);
        x.see(6, 2, 2);
        check.due("one who has seen it", x.may(0, 2), 1);
        x.see(6, 2, 0);
        x.hear(6, 2, true);
        check.due("one who has heard of it", x.may(0, 2), 1);
        x.hear(0, 2, false);
        check.due("unheard oneself", x.may(0, 2), 0);
        x.hear(0, 2, true);
        x.see(0, 2, 2);
        check.due("barred", x.may(0, 2), 0);
        x.see(0, 2, 1);
        check.due("half by day", x.may(0, 2), 1);
        x.ask(0, 1);
        check.due("half at dusk", x.may(0, 2), 0);
    }

    private static void guessesSayAllThatIsNotBarred() {
        OnlyUnseen x = Check.of(4, GUESS);
        check.due("all", bitsOfMay(x, 0), 15);
        x.ask(2, 9);
        check.due("lies are no guesses", bitsOfMay(x, 0), 15);
        x.see(0, 0, 1);
        x.see(0, 3, 2);
        check.due("but what is seen", bitsOfMay(x, 0), 7);
        x.ask(0, 1);
        check.due("but what is half seen", bitsOfMay(x, 0), 6);
        x.hear(0, 0, true);
        check.due("heard or not", bitsOfMay(x, 0), 6);
        x.see(0, 1, 2);
        x.see(0, 2, 2);
        check.due("nothing", bitsOfMay(x, 0), 0);
    }

    private static void liesAreOfTheFirstThatAreBarred() {
        OnlyUnseen x = Check.of(8, LIAR);
        for (int sight : new int[] {1, 3, 4, 6}) {
            x.see(0, sight, 2);
        }
        x.see(0, 0, 1);
        int[] byDay = {0xa5, 0xa7, 0xaf, 0xbf, 0xff, 0xff, 0xff, 0xff, 0xff, 0xff};
        int[] atDusk = {0xa4, 0xa5, 0xa7, 0xaf, 0xbf, 0xff, 0xff, 0xff, 0xff, 0xff};
        for (int lies = 0; lies < 10; lies++) {
            x.ask(2, lies);
            x.ask(0, 0);
            check.due("lies by day " + lies, bitsOfMay(x, 0), byDay[lies]);
            x.ask(0, 1);
            check.due("lies at dusk " + lies, bitsOfMay(x, 0), atDusk[lies]);
        }
        for (int sight = 0; sight < 8; sight++) {
            x.see(0, sight, 2);
        }
        for (int lies = 0; lies < 10; lies++) {
            x.ask(2, lies);
            check.due("lies of all " + lies, bitsOfMay(x, 0), (1 << Math.min(lies, 8)) - 1);
        }
    }

    private static void nothingIsBarredToWhoIsBlind() {
        OnlyUnseen x = Check.of(8, BLIND);
        x.ask(0, 1);
        for (int sight = 0; sight < 8; sight++) {
            check.due("unheard", x.may(0, sight), 0);
            x.hear(0, sight, true);
            check.due("heard", x.may(0, sight), 1);
            check.due("seeing", x.see(0, sight, 2), -5);
            check.due("half seeing", x.see(0, sight, 1), -5);
            check.due("not seeing", x.see(0, sight, 0), 0);
        }
        check.due("nothing barred", x.personOf(0, 7), 0);
        check.due("stuck", x.status(15), 16);
    }

    private static void aSayingIsHeardByAllWhoHear() {
        OnlyUnseen x = Check.of(4, LIAR, PERSON, TRUE, GUESS, LIAR, BLIND, FORGETS);
        check.due("nobody hears", x.say(0, 3), 0);
        x.see(0, 3, 2);
        x.ask(2, 1);
        for (int q = 1; q < 7; q++) {
            x.near(q, 0, true);
        }
        x.see(1, 3, 2);
        x.see(2, 3, 1);
        x.hear(3, 3, true);
        check.due("all but one hadn't heard", x.say(0, 3), 5);
        check.due("said again", x.say(0, 3), 0);
        check.due("who said it is as ahead", x.personOf(0, 4), 0);
        for (int q = 1; q < 7; q++) {
            check.due("heard " + q, x.personOf(q, 4), 8);
        }
        check.due("a town of seven", x.known(), 7);
    }

    private static void knownIsSeenHalfSeenOrHeard() {
        OnlyUnseen x = Check.of(4, PERSON);
        check.due("nothing", x.known(), 0);
        x.see(0, 0, 2);
        x.hear(0, 0, true);
        check.due("seen and heard is one", x.known(), 1);
        x.see(0, 1, 1);
        check.due("half, by day", x.known(), 2);
        x.ask(0, 1);
        check.due("half, at dusk", x.known(), 2);
        x.hear(0, 2, true);
        check.due("heard", x.known(), 3);
        check.due("known to one", x.personOf(0, 6), 7);
        check.due("by status", x.status(9), 3);
    }

    private static void aSignIsOfWhatIsSeenToOneWhoHears() {
        OnlyUnseen x = Check.of(4, PERSON, PERSON, PERSON);
        x.near(1, 0, true);
        x.near(2, 0, true);
        for (int how = 0; how < 3; how++) {
            x.see(0, 0, how);
            check.due("sign of how " + how, x.sign(0, 1, 0), how == 2 ? 1 : -5);
        }
        check.due("to one other alone", x.personOf(2, 4), 0);
        check.due("who made it is as ahead", x.personOf(0, 4), 0);
        check.due("again", x.sign(0, 1, 0), 0);
        check.due("back to who isn't heard", x.sign(1, 0, 0), -5);
        x.see(2, 0, 2);
        check.due("to one who has seen it", x.sign(0, 2, 0), 1);
        check.due("heard of it then", x.personOf(2, 4), 1);
        x.ask(1, 0);
        x.hear(1, 0, false);
        check.due("without signs in a round", x.sign(0, 1, 0), 1);
    }

    private static void pairsHearEachOther() {
        OnlyUnseen x = Check.of(4);
        check.due("nobody", x.pairs(), 0);
        check.due("nobody is alone", x.alone(), 0);
        x.person(0, 0);
        check.due("one", x.pairs(), 0);
        check.due("one is alone", x.alone(), 1);
        x.person(0, 0);
        x.near(1, 0, true);
        check.due("one way", x.pairs(), 0);
        check.due("who isn't heard", x.alone(), 2);
        x.near(0, 1, true);
        check.due("both ways", x.pairs(), 1);
        check.due("none is alone", x.alone(), 0);
    }

    private static void ofSeveralLoudestTheFirst() {
        OnlyUnseen x = Check.of(4, PERSON, PERSON, PERSON);
        check.due("of silent ones", x.loudest(), 0);
        x.hear(2, 0, true);
        check.due("the last", x.loudest(), 2);
        x.hear(1, 3, true);
        check.due("as much", x.loudest(), 1);
        x.hear(2, 3, true);
        check.due("more", x.loudest(), 2);
        x.see(2, 3, 2);
        check.due("as much again", x.loudest(), 1);
        OnlyUnseen y = Check.of(4, PERSON, PERSON, PERSON, PERSON, PERSON, PERSON, PERSON);
        check.due("of seven silent ones", y.loudest(), 0);
        y.hear(6, 3, true);
        check.due("the last of seven", y.loudest(), 6);
        check.due("one alone", Check.of(4, BLIND).loudest(), 0);
    }

    public static void main(String[] args) {
        fourSightsAtFirstEightAtMost();
        allEightSights();
        sevenPeopleAtMost();
        nothingAtFirst();
        nothingAtFirstForANumberThatWasAnothers();
        seenHalfOrNeither();
        duskIsNoughtAtFirstAndBarsNothingHalfSeen();
        settingsAreNoughtAtFirst();
        aPersonMaySayWhatTheyHaveHeardOf();
        trueOnesNeedOneWhomTheyHear();
        guessesSayAllThatIsNotBarred();
        liesAreOfTheFirstThatAreBarred();
        nothingIsBarredToWhoIsBlind();
        aSayingIsHeardByAllWhoHear();
        knownIsSeenHalfSeenOrHeard();
        aSignIsOfWhatIsSeenToOneWhoHears();
        pairsHearEachOther();
        ofSeveralLoudestTheFirst();
        check.end("TownEdgesTest");
    }
}
