/** Promises 24 to 33, 35, 38, 39 and 50: what comes of it by rounds, in thought and in truth. */
public final class RoundsTest {
    private static final String LINE = "person 0 0 heard 0;person 0 0;person 0 0;person 0 0;hears 1 0;hears 2 1;hears 3 2";
    private static final Check check = new Check();

    private static void spreading() {
        OnlyUnseen x = Check.town(LINE);
        int[] known = {1, 2, 3, 4, 4};
        for (int n = 0; n < 5; n++) {
            check.due("knownBy " + n, x.knownBy(n), known[n]);
            check.due("spread to 2 by " + n, x.spread(n, 2), n >= 2 ? 1 : 0);
            check.due("mouthsBy " + n, x.mouthsBy(0, n), (1 << known[n]) - 1);
        }
        check.due("rounds", x.rounds(), 3);
        check.due("never of what is heard", x.never(0), 0);
        check.due("never of what is not", x.never(1), 15);
        check.due("when at last", x.when(3, 0), 3);
        check.due("when now", x.when(0, 0), 0);
        check.due("when never", x.when(3, 1), -1);
        check.due("nothing is changed", x.known(), 1);
        check.due("nothing is refused", x.status(12), 0);
        check.due("round", x.round(), 2);
        check.due("round again", x.round(), 3);
        check.due("rounds then", x.rounds(), 1);
        check.due("knownBy 20", x.knownBy(20), 4);
    }

    private static void refusals() {
        OnlyUnseen x = Check.town(LINE);
        int[][] bad = {{21, 0}, {-1, 0}, {0, 4}, {0, -1}};
        for (int[] b : bad) {
            check.due("spread of bad", x.spread(b[0], b[1]), -2);
            check.due("first of bad", x.first(b[1], b[0]), -2);
            check.due("stop of bad", x.stop(b[1], b[0]), -2);
            check.due("mouthsBy of bad", x.mouthsBy(b[1], b[0]), -2);
            check.due("worth of bad", x.worth(b[1], b[0]), -2);
            check.due("blind of bad", x.blind(b[1], b[0]), -1000002);
            check.due("when of bad", x.when(b[1], b[1]), b[1] == 0 ? 0 : -2);
        }
        check.due("counted", x.status(12), 26);
        check.due("knownBy 21", x.knownBy(21), -2);
        check.due("knownBy -1", x.knownBy(-1), -2);
        check.due("dusk 21", x.dusk(21), -1000002);
        check.due("dusk -1", x.dusk(-1), -1000002);
        check.due("never of no sight", x.never(4), -2);
        check.due("when of nobody", x.when(4, 0), -2);
        check.due("when of no sight", x.when(0, 4), -2);
        check.due("order of nobody", x.order(4), -2);
        check.due("order below none", x.order(-2), -2);
        check.due("chain from nobody", x.chain(4, 0, 0), -2);
        check.due("chain to nobody", x.chain(0, 4, 0), -2);
        check.due("chain of no sight", x.chain(0, 1, 4), -2);
        check.due("first of nobody there", new OnlyUnseen().first(0, 0), -5);
        check.due("counted all", x.status(12), 38);
    }

    private static void signs() {
        OnlyUnseen x = Check.town("person 0 0 saw 0;saw 0 1;person 0 0;person 0 0 saw 0;hears 1 0;hears 2 0;signs 3");
        check.due("no saying", x.mouths(0), 0);
        check.due("known ahead", x.known(), 3);
        check.due("signs by order", x.spread(1, 1) * 10 + x.spread(1, 2), 31);
        check.due("rounds of signs", x.rounds(), 2);
        check.due("round of signs", x.round(), 5);
        check.due("round of signs again", x.round(), 6);
        x.ask(1, 0);
        check.due("no signs", x.rounds(), 0);

        OnlyUnseen y = Check.town("person 0 0 saw 0;person 0 0 heard 0;person 0 0;person 0 0;hears 2 1;hears 2 0;hears 3 0;signs 1");
        check.due("signs come behind sayings", y.spread(1, 2) * 10 + y.spread(1, 3), 11);
    }

    private static void twentyAtMost() {
        OnlyUnseen x = Check.town("sights 8;person 0 0;person 0 0;person 0 0;person 0 0;hears 1 0;hears 2 0;hears 3 0;signs 1");
        for (int sight = 0; sight < 8; sight++) {
            x.see(0, sight, 2);
        }
        x.see(1, 0, 1);
        check.due("rounds at most", x.rounds(), 20);
        check.due("when by the last", x.when(3, 3), 20);
        check.due("when behind the last", x.when(3, 4), -1);
        check.due("when half seen", x.when(1, 0), 0);
        check.due("never by the last", x.never(3), 0);
        check.due("never behind the last", x.never(4), 8);
    }

    private static void stopping() {
        OnlyUnseen x = Check.town(LINE);
        check.due("stop one", x.stop(0, 20), 1);
        check.due("stop nobody", x.stop(1, 20), 0);
        x.hear(2, 0, true);
        check.due("stop two", x.stop(0, 0), 5);
        x.person(4, 0);
        check.due("a blind one who is silent", x.stop(0, 20), 5);
        x.near(4, 3, true);
        check.due("a blind one who hears nothing", x.stop(0, 20), 5);
        x.hear(4, 0, true);
        check.due("a blind one who may say it", x.stop(0, 20), -1);
        check.due("none is not refused", x.status(12), 0);
        check.due("nothing is shown", x.personOf(0, 2), 0);

        OnlyUnseen y = Check.town("person 3 0;person 2 0");
        check.due("a guess and a liar", y.stop(0, 1), 3);
        y.ask(2, 1);
        check.due("a liar by lies", y.stop(0, 1), -1);
        y.see(0, 0, 2);
        check.due("lies of another sight", y.stop(1, 1), 3);

        OnlyUnseen z = Check.town("person 0 0 saw 0;person 0 0;person 0 0;hears 1 0;hears 2 1;signs 1");
        check.due("stop ahead of a sign", z.stop(0, 0), 0);
        check.due("stop behind a sign", z.stop(0, 1), 2);
    }

    private static void telling() {
        OnlyUnseen x = Check.town(LINE);
        check.due("first by none", x.first(1, 0), 0);
        check.due("first by one", x.first(1, 1), 0);
        x.see(0, 1, 2);
        check.due("first when one is barred", x.first(1, 1), 1);
        check.due("first when one is barred, by more", x.first(1, 9), 1);
        check.due("nobody is told", x.personOf(1, 4), 0);
        check.due("first of what one knows", x.first(0, 0), 1);
    }

    private static void orders() {
        OnlyUnseen x = Check.town(LINE);
        check.due("order knows", x.order(-1), 4);
        for (int i = 0; i < 4; i++) {
            check.due("order " + i, x.order(i), i);
        }
        OnlyUnseen y = Check.town("person 0 0;person 0 0;person 0 0;person 0 0 heard 0;hears 2 3;hears 1 2;hears 0 1;signs 9;saw 3 1");
        check.due("order back knows", y.order(-1), 5);
        int[] who = {0, 3, 2, 1};
        for (int i = 0; i < 4; i++) {
            check.due("order back " + i, y.order(i), who[i]);
        }
        check.due("nobody spoke", y.known(), 2);
        check.due("order of nobody", new OnlyUnseen().order(-1), 0);
        OnlyUnseen z = Check.town("person 0 0 heard 0;person 0 0 heard 1;hears 0 1;hears 1 0;hears 0 1");
        check.due("any order will do", z.order(0) * 10 + z.order(1), 1);
        for (int p = 2; p < 7; p++) {
            z.person(0, 0);
            z.near(p - 1, p, true);
        }
        z.hear(6, 3, true);
        check.due("seven", z.order(-1), 4 + 2 + 5);
        int[] seven = {0, 6, 5, 4, 3, 2, 1};
        for (int i = 0; i < 7; i++) {
            check.due("seven " + i, z.order(i), seven[i]);
        }
        z.hear(0, 2, true);
        z.see(1, 2, 2);
        z.near(2, 0, true);
        check.due("one order alone", z.order(-1), 3 + 3 + 3 + 7);
        for (int i = 0; i < 7; i++) {
            check.due("one order alone " + i, z.order(i), 6 - i);
        }
    }

    private static void ordersThatTie() {
        OnlyUnseen x = Check.town("person 0 0 heard 0;person 0 0;person 0 0;person 0 0 heard 1;"
            + "hears 0 1;hears 1 0;hears 1 2;hears 2 1;hears 2 3;hears 3 2");
        check.due("two ways at odds", x.order(-1), 7);
        int[] who = {0, 1, 3, 2};
        for (int i = 0; i < 4; i++) {
            check.due("two ways at odds " + i, x.order(i), who[i]);
        }
        check.due("order is not refused", x.status(12), 0);
    }

    private static void worths() {
        OnlyUnseen x = Check.town(LINE);
        check.due("worth of a link", x.worth(1, 3), 2);
        check.due("worth of a link too early", x.worth(1, 1), 0);
        check.due("worth of the last", x.worth(3, 20), 0);
        check.due("worth of the first", x.worth(0, 3), 3);
        check.due("everybody hears as ahead", x.personOf(1, 5) * 10 + x.personOf(2, 5), 12);
        OnlyUnseen y = Check.town("person 0 0 saw 0;person 0 0;person 0 0;hears 1 0;hears 2 0;signs 1");
        check.due("one who takes the only sign", y.worth(1, 1), -1);
    }

    private static void chains() {
        OnlyUnseen x = Check.town(LINE);
        check.due("chain", x.chain(0, 3, 0), 3);
        check.due("chain to oneself", x.chain(2, 2, 0), 0);
        check.due("chain back", x.chain(3, 0, 0), -1);
        x.see(1, 0, 2);
        check.due("chain broken", x.chain(0, 3, 0), -1);
        check.due("chain to who is barred", x.chain(0, 1, 0), 1);
        check.due("chain from who is barred", x.chain(1, 3, 0), 2);
        check.due("chain of another sight", x.chain(0, 3, 1), 3);
        x.near(2, 0, true);
        check.due("chain around", x.chain(0, 3, 0), 2);
        x.see(2, 0, 1);
        check.due("chain by day", x.chain(0, 3, 0), 2);
        x.ask(0, 1);
        check.due("chain at dusk", x.chain(0, 3, 0), -1);
        check.due("none is not refused", x.status(12), 0);
    }

    private static void differences() {
        OnlyUnseen x = Check.town(LINE + ";saw 0 1;half 0 2;dusk 1");
        check.due("blind now", x.blind(0, 0), 0);
        check.due("blind by one", x.blind(0, 1), 2);
        check.due("blind by three", x.blind(0, 3), 6);
        check.due("still seen", x.personOf(0, 2), 2);
        check.due("dusk bars nothing unheard", x.dusk(3), 0);
        x.hear(0, 2, true);
        check.due("dusk bars what is heard", x.dusk(3), 3);
        check.due("dusk now", x.dusk(0), 0);
        check.due("dusk is as it was", x.status(2), 1);
        OnlyUnseen y = Check.town("person 2 0;person 0 0;hears 1 0");
        check.due("a guess less", y.blind(0, 1), -4);
        check.due("kind as it was", y.personOf(0, 0), 2);
        OnlyUnseen z = Check.town("person 0 0 saw 0;half 0 0;person 0 0;hears 1 0");
        z.hear(0, 0, true);
        check.due("day ahead", z.dusk(1), 1);
    }

    public static void main(String[] args) {
        spreading();
        refusals();
        signs();
        twentyAtMost();
        stopping();
        telling();
        orders();
        ordersThatTie();
        worths();
        chains();
        differences();
        check.end("RoundsTest");
    }
}
