/** What comes of it by ROUNDS, orders and chains: the boundary cases of 3. and of promises 23 to 40 and 50, a function for each sentence. */
public final class RoundEdgesTest {
    private static final int PERSON = 0;
    private static final int TRUE = 1;
    private static final int GUESS = 2;
    private static final int LIAR = 3;
    private static final int BLIND = 4;
    private static final Check check = new Check();

    /** Seven who are PERSON, each of whom HEARS the one ahead. */
    private static OnlyUnseen line() {
        OnlyUnseen x = Check.of(4, 0, 0, 0, 0, 0, 0, 0);
        for (int p = 1; p < 7; p++) {
            x.near(p, p - 1, true);
        }
        return x;
    }

    /** One has SEEN 8 SIGHTS, three others HEAR that one, by one SIGN in a ROUND: 24 ROUNDS that change something. */
    private static OnlyUnseen slowSigns() {
        OnlyUnseen x = Check.of(8, PERSON, PERSON, PERSON, PERSON);
        for (int sight = 0; sight < 8; sight++) {
            x.see(0, sight, 2);
        }
        for (int q = 1; q < 4; q++) {
            x.near(q, 0, true);
        }
        x.ask(1, 1);
        return x;
    }

    private static void aRoundIsAllAtOnce() {
        OnlyUnseen x = line();
        OnlyUnseen back = Check.of(4, 0, 0, 0, 0, 0, 0, 0);
        for (int p = 1; p < 7; p++) {
            back.near(p - 1, p, true);
        }
        x.hear(0, 3, true);
        back.hear(6, 3, true);
        for (int n = 0; n < 7; n++) {
            check.due("forth by " + n, x.knownBy(n), n + 1);
            check.due("back by " + n, back.knownBy(n), n + 1);
            for (int p = 0; p < 7; p++) {
                check.due("forth to " + p + " by " + n, x.spread(n, p), p <= n ? 8 : 0);
                check.due("back to " + p + " by " + n, back.spread(n, 6 - p), p <= n ? 8 : 0);
            }
            check.due("who may say it by " + n, x.mouthsBy(3, n), (2 << n) - 1);
        }
        check.due("by 20", x.knownBy(20), 7);
        check.due("rounds", x.rounds(), 6);
        check.due("when at last", x.when(6, 3), 6);
        check.due("in thought alone", x.known(), 1);
        check.due("a round in truth", x.round(), 2);
        check.due("rounds then", x.rounds(), 5);
        OnlyUnseen y = Check.of(4, GUESS, TRUE, PERSON);
        y.near(1, 0, true);
        y.near(2, 1, true);
        y.hear(1, 2, true);
        check.due("what is true ahead of the round", y.spread(1, 2), 0);
        check.due("nobody vouches by a saying", y.spread(2, 2), 0);
        y.see(0, 2, 2);
        check.due("who has seen it does", y.spread(1, 2), 4);
    }

    private static void signsAreAsManyAsMayBe() {
        OnlyUnseen x = Check.of(8, PERSON, PERSON, PERSON);
        for (int sight = 0; sight < 8; sight++) {
            x.see(0, sight, 2);
        }
        x.near(1, 0, true);
        x.near(2, 0, true);
        // the first of the others for all SIGHTS by numbers, then the next
        int[] ofFirst = {0, 1, 3, 7, 15, 31, 63, 127, 255, 255};
        int[] ofSecond = {0, 0, 0, 0, 0, 0, 0, 0, 0, 1};
        for (int signs = 0; signs < 10; signs++) {
            x.ask(1, signs);
            check.due("the first by " + signs, x.spread(1, 1), ofFirst[signs]);
            check.due("the second by " + signs, x.spread(1, 2), ofSecond[signs]);
            check.due("rounds by " + signs, x.rounds(), signs == 0 ? 0 : (16 + signs - 1) / signs);
        }
        check.due("a round in truth", x.round(), 8 + 9);
        check.due("the rest", x.round(), 8 + 16);
        check.due("no more", x.round(), 8 + 16);
    }

    private static void signsAreByNumbersOfWhoMakesThem() {
        OnlyUnseen x = Check.of(4, PERSON, PERSON, PERSON, PERSON);
        x.near(0, 1, true);
        x.near(2, 1, true);
        x.near(3, 0, true);
        x.see(0, 3, 2);
        x.see(1, 0, 2);
        x.see(1, 2, 1);
        int[][] due = {{0, 0, 0}, {0, 0, 8}, {1, 0, 8}, {1, 1, 8}, {1, 1, 8}};
        for (int signs = 0; signs < 5; signs++) {
            x.ask(1, signs);
            check.due("to 0 by " + signs, x.spread(1, 0), due[signs][0]);
            check.due("to 2 by " + signs, x.spread(1, 2), due[signs][1]);
            check.due("to 3 by " + signs, x.spread(1, 3), due[signs][2]);
        }
    }

    private static void noSignOfWhatIsHeardOfAlready() {
        OnlyUnseen x = Check.of(4, PERSON, PERSON, PERSON, GUESS);
        x.see(0, 0, 2);
        x.see(0, 1, 2);
        x.near(1, 0, true);
        x.near(2, 0, true);
        x.hear(1, 0, true);
        x.ask(1, 1);
        check.due("of what isn't", x.spread(1, 1), 3);
        x.near(1, 3, true);
        check.due("said in the round, so no sign of it", x.spread(1, 2), 1);
        x.hear(2, 0, true);
        x.hear(2, 1, true);
        check.due("none is left", x.knownBy(1), x.knownBy(2));
    }

    private static void roundsAreTwentyAtMost() {
        OnlyUnseen x = slowSigns();
        for (int left = 24; left >= 0; left--) {
            check.due("rounds of " + left, x.rounds(), Math.min(left, 20));
            x.round();
        }
        OnlyUnseen y = slowSigns();
        int last = 0;
        for (int n = 0; n <= 20; n++) {
            check.due("known by " + n, y.knownBy(n), 8 + n);
            last = y.spread(n, 3);
        }
        check.due("spread by 20", last, 15);
        check.due("one beyond", y.knownBy(21), -2);
        check.due("one below", y.knownBy(-1), -2);
        check.due("rounds of nobody", new OnlyUnseen().rounds(), 0);
    }

    private static void whenIsTwentyAtMost() {
        OnlyUnseen x = slowSigns();
        for (int q = 1; q < 4; q++) {
            for (int sight = 0; sight < 8; sight++) {
                int by = 8 * (q - 1) + sight + 1;
                check.due("when " + q + " " + sight, x.when(q, sight), by <= 20 ? by : -1);
                check.due("never " + q + " " + sight, x.never(sight) >> q & 1, by <= 20 ? 0 : 1);
            }
        }
        check.due("when seen", x.when(0, 7), 0);
        x.see(3, 7, 1);
        check.due("when half seen", x.when(3, 7), 0);
        check.due("never half seen", x.never(7), 0);
        x.hear(3, 6, true);
        check.due("when heard", x.when(3, 6), 0);
        check.due("never of none", new OnlyUnseen().never(0), 0);
        check.due("never of what nobody knows", line().never(0), 127);
        check.due("when of what nobody knows", line().when(6, 0), -1);
        check.due("in thought alone", x.known(), 8 + 2);
    }

    private static void stopIsOfTheFewest() {
        OnlyUnseen x = Check.of(4, PERSON, PERSON, PERSON, PERSON, PERSON, PERSON);
        // a sign of 3 to 4 would be made, if not two others were made ahead of it: by 0 to 1, by 2 to 5
        x.see(3, 0, 2);
        x.see(1, 0, 2);
        x.see(5, 0, 2);
        x.near(4, 3, true);
        x.near(1, 0, true);
        x.near(5, 2, true);
        check.due("no sign, nobody", x.stop(0, 20), 0);
        x.ask(1, 1);
        check.due("nobody now", x.stop(0, 0), 0);
        check.due("of three alone the least as bits", x.stop(0, 1), 1);
        x.ask(1, 2);
        check.due("one alone, not two of less bits", x.stop(0, 1), 16);
        x.ask(1, 1);
        check.due("for two rounds one alone, too", x.stop(0, 2), 16);
        check.due("nothing is shown", x.personOf(4, 2), 0);
    }

    private static void fewerThanThoseOfLessBits() {
        OnlyUnseen x = Check.of(4, PERSON, PERSON, PERSON, PERSON, PERSON, PERSON);
        x.see(3, 0, 2);
        x.near(4, 3, true);
        x.ask(1, 9);
        check.due("the one who'd be shown it", x.stop(0, 1), 16);
        x.hear(0, 0, true);
        check.due("and who may say it now", x.stop(0, 1), 17);
        check.due("now alone", x.stop(0, 0), 1);
    }

    private static void stopByEveryRoundToTwenty() {
        OnlyUnseen x = slowSigns();
        check.due("by the twentieth round", x.stop(3, 20), 14);
        check.due("ahead of it", x.stop(3, 19), 6);
        check.due("by the twenty-first", x.stop(4, 20), 6);
        check.due("by the first", x.stop(0, 1), 2);
        check.due("by none", x.stop(0, 0), 0);
    }

    private static void stopOfAllOrNone() {
        OnlyUnseen x = Check.of(4, 0, 0, 0, 0, 0, 0, 0);
        for (int p = 0; p < 7; p++) {
            check.due("stop of " + p, x.stop(3, 20), (1 << p) - 1);
            x.hear(p, 3, true);
        }
        check.due("stop of all", x.stop(3, 20), 127);
        check.due("stop of all now", x.stop(3, 0), 127);
        check.due("of another sight", x.stop(2, 20), 0);
        check.due("nobody there", new OnlyUnseen().stop(0, 20), 0);
    }

    private static void stopShowsNobodyWhoIsBlind() {
        OnlyUnseen x = Check.of(4, PERSON, BLIND);
        x.near(1, 0, true);
        x.hear(0, 0, true);
        check.due("one who'd hear it no more", x.stop(0, 20), 1);
        x.hear(1, 0, true);
        check.due("one who may say it", x.stop(0, 20), -1);
        check.due("now", x.stop(0, 0), -1);
        x.hear(1, 0, false);
        x.see(0, 0, 2);
        x.ask(1, 1);
        check.due("none now", x.stop(0, 0), 0);
        check.due("one to whom a sign is made", x.stop(0, 1), -1);
        for (int one = 0; one < 7; one++) {
            int[] kinds = new int[7];
            kinds[one] = BLIND;
            OnlyUnseen y = Check.of(4, kinds);
            y.hear(one, 0, true);
            check.due("blind of number " + one, y.stop(0, 0), -1);
            y.hear(one, 0, false);
            y.hear(6 - one, 0, true);
            check.due("blind of another number than " + one, y.stop(0, 0), one == 3 ? -1 : 64 >> one);
        }
    }

    private static void stopCountsLiars() {
        OnlyUnseen x = Check.of(4, LIAR);
        check.due("without lies", x.stop(1, 0), 1);
        x.ask(2, 1);
        check.due("by a lie", x.stop(1, 0), -1);
        x.see(0, 2, 2);
        check.due("by the first that is barred", x.stop(1, 0), -1);
        x.see(0, 0, 2);
        check.due("not by the second", x.stop(1, 0), 1);
        x.ask(2, 2);
        check.due("by the second, too", x.stop(1, 0), -1);
    }

    private static void stopShowsWhatWasHalfSeen() {
        OnlyUnseen x = Check.of(4, PERSON);
        x.see(0, 0, 1);
        x.hear(0, 0, true);
        check.due("half seen by day", x.stop(0, 0), 1);
        x.ask(0, 1);
        check.due("half seen at dusk", x.stop(0, 0), 0);
        check.due("half seen still", x.personOf(0, 3), 1);
    }

    private static void firstOfSeveral() {
        OnlyUnseen x = line();
        for (int n = 0; n <= 20; n++) {
            check.due("first by " + n, x.first(0, n), 0);
        }
        x.hear(0, 0, true);
        check.due("first who doesn't know it", x.first(0, 0), 1);
        check.due("first for one round", x.first(0, 1), 2);
        check.due("first for two rounds", x.first(0, 2), 3);
        check.due("first for six rounds", x.first(0, 6), 0);
        check.due("nobody is told", x.known(), 1);
        OnlyUnseen y = Check.of(4, PERSON, PERSON);
        y.see(0, 0, 2);
        y.see(1, 0, 1);
        check.due("all know it", y.first(0, 20), 0);
        OnlyUnseen z = Check.of(4, BLIND);
        check.due("one alone", z.first(3, 20), 0);
    }

    private static void orderOfSeveralTheFirst() {
        OnlyUnseen x = Check.of(4, 0, 0, 0, 0, 0, 0, 0);
        check.due("nothing to say", x.order(-1), 0);
        for (int i = 0; i < 7; i++) {
            check.due("nothing to say, " + i, x.order(i), i);
        }
        OnlyUnseen y = Check.of(8, 0, 0, 0, 0, 0, 0, 0);
        for (int p = 0; p < 6; p++) {
            y.near(p, p + 1, true);
        }
        for (int sight = 0; sight < 8; sight++) {
            y.hear(6, sight, true);
        }
        check.due("all that can be known", y.order(-1), 56);
        for (int i = 0; i < 7; i++) {
            check.due("the first order of seven, " + i, y.order(i), i == 0 ? 0 : 7 - i);
        }
        check.due("in thought alone", y.known(), 8);
        check.due("one behind", y.order(7), -2);
        check.due("one ahead", y.order(-2), -2);
    }

    private static void orderOfSeveralAmongOthers() {
        // one between can't have heard both ways at once: of four who hear their neighbours all can't know all
        OnlyUnseen x = Check.of(4, PERSON, PERSON, PERSON, PERSON);
        for (int p = 0; p < 3; p++) {
            x.near(p, p + 1, true);
            x.near(p + 1, p, true);
        }
        x.hear(0, 0, true);
        x.hear(3, 1, true);
        int[] who = {0, 1, 3, 2};
        check.due("known", x.order(-1), 7);
        for (int i = 0; i < 4; i++) {
            check.due("of several the first " + i, x.order(i), who[i]);
        }
        x.hear(3, 1, false);
        check.due("less is known then", x.order(-1), 4);
        for (int i = 0; i < 4; i++) {
            check.due("of less the first " + i, x.order(i), i);
        }
        x.hear(0, 0, false);
        x.hear(2, 3, true);
        check.due("as much by another", x.order(-1), 4);
        int[] others = {0, 2, 1, 3};
        for (int i = 0; i < 4; i++) {
            check.due("by another " + i, x.order(i), others[i]);
        }
    }

    private static void orderHasNoSignsAndEachSpeaksOnce() {
        OnlyUnseen x = Check.of(4, PERSON, PERSON, PERSON);
        x.near(1, 0, true);
        x.near(0, 1, true);
        x.near(2, 1, true);
        x.near(1, 2, true);
        x.ask(1, 9);
        x.see(0, 3, 2);
        check.due("no signs", x.order(-1), 1);
        x.hear(0, 0, true);
        x.hear(2, 1, true);
        // one between says what either has told ahead of it
        check.due("known", x.order(-1), 1 + 3 * 2);
        check.due("first", x.order(0), 0);
        check.due("second", x.order(1), 2);
        check.due("third", x.order(2), 1);
        OnlyUnseen y = Check.of(4, GUESS);
        check.due("one alone knows", y.order(-1), 0);
        check.due("one alone speaks", y.order(0), 0);
    }

    private static void worthIsToTheOthers() {
        OnlyUnseen x = line();
        x.hear(0, 0, true);
        for (int p = 0; p < 7; p++) {
            check.due("now " + p, x.worth(p, 0), 0);
            check.due("by 20 " + p, x.worth(p, 20), 6 - p);
            check.due("by two " + p, x.worth(p, 2), p < 2 ? 2 - p : 0);
        }
        check.due("as it was", x.personOf(1, 5) * 10 + x.personOf(2, 5), 12);
        OnlyUnseen y = Check.of(4, GUESS);
        check.due("one alone", y.worth(0, 20), 0);
        OnlyUnseen z = Check.of(4, PERSON, GUESS);
        z.near(0, 1, true);
        check.due("who alone hears", z.worth(0, 20), 0);
        check.due("who is alone heard", z.worth(1, 1), 4);
        OnlyUnseen s = Check.of(4, PERSON, PERSON, PERSON);
        s.near(1, 0, true);
        s.near(2, 0, true);
        s.see(0, 0, 2);
        s.ask(1, 1);
        check.due("who takes another's sign", s.worth(1, 1), -1);
        check.due("who takes it for one round alone", s.worth(1, 2), 0);
        check.due("who makes it", s.worth(0, 1), 1);
    }

    private static void chainOfFewest() {
        OnlyUnseen x = line();
        for (int p = 0; p < 7; p++) {
            for (int q = 0; q < 7; q++) {
                check.due("chain " + p + " " + q, x.chain(p, q, 0), p <= q ? q - p : -1);
            }
        }
        x.see(6, 0, 2);
        x.see(0, 0, 2);
        check.due("both ends barred", x.chain(0, 6, 0), 6);
        x.see(3, 0, 2);
        check.due("one between is barred", x.chain(0, 6, 0), -1);
        check.due("to who is barred", x.chain(0, 3, 0), 3);
        check.due("from who is barred", x.chain(3, 6, 0), 3);
        check.due("of another sight", x.chain(0, 6, 1), 6);
        x.near(4, 2, true);
        check.due("around", x.chain(0, 6, 0), 5);
        x.see(3, 0, 0);
        x.see(3, 0, 1);
        x.near(4, 2, false);
        check.due("half seen by day", x.chain(0, 6, 0), 6);
        x.ask(0, 1);
        check.due("half seen at dusk", x.chain(0, 6, 0), -1);
        check.due("the same, barred or not", x.chain(3, 3, 0), 0);
        OnlyUnseen back = Check.of(4, 0, 0, 0, 0, 0, 0, 0);
        for (int p = 0; p < 6; p++) {
            back.near(p, p + 1, true);
            check.due("back to the first " + p, back.chain(p + 1, 0, 3), p + 1);
        }
        OnlyUnseen y = Check.of(4, LIAR, LIAR, LIAR);
        y.near(1, 0, true);
        y.near(2, 1, true);
        y.ask(2, 9);
        y.see(1, 0, 2);
        check.due("who hears whom alone counts", y.chain(0, 2, 0), -1);
    }

    private static void blindMayBeMoreOrLess() {
        OnlyUnseen x = Check.of(4, PERSON, PERSON);
        x.near(1, 0, true);
        x.see(0, 0, 2);
        x.see(0, 3, 1);
        check.due("now", x.blind(0, 0), 0);
        check.due("seen and half seen are said", x.blind(0, 1), 2);
        check.due("who knows nothing", x.blind(1, 20), 0);
        x.ask(0, 1);
        check.due("half seen at dusk is said, too", x.blind(0, 1), 2);
        x.ask(0, 0);
        check.due("as it was", x.personOf(0, 0) * 100 + x.personOf(0, 2) * 10 + x.personOf(0, 4), 10);
        OnlyUnseen y = Check.of(8, GUESS, PERSON, PERSON, PERSON, PERSON, PERSON, PERSON);
        for (int q = 1; q < 7; q++) {
            y.near(q, 0, true);
        }
        check.due("a guess says nothing then", y.blind(0, 1), -48);
        OnlyUnseen z = Check.of(4, BLIND, PERSON);
        z.near(1, 0, true);
        z.hear(0, 0, true);
        check.due("who is blind already", z.blind(0, 20), 0);
        OnlyUnseen s = Check.of(4, PERSON, PERSON, PERSON);
        s.near(1, 0, true);
        s.near(2, 0, true);
        s.see(0, 0, 2);
        s.ask(1, 1);
        check.due("a saying for one sign", s.blind(0, 1), 1);
        check.due("two signs are as good", s.blind(0, 2), 0);
    }

    private static void duskIsHowMuchMoreIsKnownByDay() {
        OnlyUnseen x = Check.of(4, PERSON, PERSON);
        x.near(1, 0, true);
        x.see(0, 0, 1);
        x.hear(0, 0, true);
        for (int dusk = 0; dusk < 2; dusk++) {
            x.ask(0, dusk);
            check.due("now, dusk " + dusk, x.dusk(0), 0);
            check.due("by one, dusk " + dusk, x.dusk(1), 1);
            check.due("by twenty, dusk " + dusk, x.dusk(20), 1);
            check.due("as it was", x.status(2), dusk);
        }
        // at DUSK a first SIGHT is BARRED, so the lie is of that, and not of the second
        OnlyUnseen y = Check.of(4, LIAR, PERSON);
        y.near(1, 0, true);
        y.ask(2, 1);
        y.see(0, 0, 1);
        y.see(0, 1, 2);
        check.due("a lie less", y.dusk(1), 1);
        check.due("of nobody", new OnlyUnseen().dusk(20), 0);
    }

    public static void main(String[] args) {
        aRoundIsAllAtOnce();
        signsAreAsManyAsMayBe();
        signsAreByNumbersOfWhoMakesThem();
        noSignOfWhatIsHeardOfAlready();
        roundsAreTwentyAtMost();
        whenIsTwentyAtMost();
        stopIsOfTheFewest();
        fewerThanThoseOfLessBits();
        stopByEveryRoundToTwenty();
        stopOfAllOrNone();
        stopShowsNobodyWhoIsBlind();
        stopCountsLiars();
        stopShowsWhatWasHalfSeen();
        firstOfSeveral();
        orderOfSeveralTheFirst();
        orderOfSeveralAmongOthers();
        orderHasNoSignsAndEachSpeaksOnce();
        worthIsToTheOthers();
        chainOfFewest();
        blindMayBeMoreOrLess();
        duskIsHowMuchMoreIsKnownByDay();
        check.end("RoundEdgesTest");
    }
}
