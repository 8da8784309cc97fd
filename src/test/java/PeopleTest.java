/** Promises 9 to 14, 18 to 23, 34, 36, 37 and 40: people and what they may say as things stand. */
public final class PeopleTest {
    private static final Check check = new Check();

    private static void sights() {
        OnlyUnseen x = new OnlyUnseen();
        check.due("fewer sights", x.sights(3), -2);
        check.due("as many sights", x.sights(4), 4);
        check.due("more sights", x.sights(6), 4);
        check.due("fewer again", x.sights(5), -2);
        check.due("too many", x.sights(9), -2);
        check.due("most", x.sights(8), 6);
        x.person(2, 0);
        check.due("a guess says all", x.personOf(0, 6) + x.may(0, 7), 1);
    }

    private static void persons() {
        OnlyUnseen x = new OnlyUnseen();
        check.due("no kind", x.person(6, 0), -2);
        check.due("kind -1", x.person(-1, 0), -2);
        check.due("a too large", x.person(0, 10), -2);
        check.due("a below", x.person(0, -1), -2);
        for (int p = 0; p < 7; p++) {
            check.due("person " + p, x.person(p % 6, 9 - p), p);
        }
        check.due("an eighth", x.person(0, 0), -6);
        check.due("an eighth of no kind", x.person(6, 0), -2);
        check.due("kind of one", x.personOf(5, 0), 5);
        check.due("a of one", x.personOf(6, 1), 3);
        check.due("refused as full", x.status(16), 1);
    }

    private static void seeing() {
        OnlyUnseen x = Check.town("person 0 0;person 4 0");
        check.due("seen anew", x.see(0, 1, 2), 0);
        check.due("half seen then", x.see(0, 1, 1), 2);
        check.due("seen no more", x.personOf(0, 2), 0);
        check.due("half", x.personOf(0, 3), 2);
        check.due("seen again", x.see(0, 1, 2), 1);
        check.due("not half", x.personOf(0, 3), 0);
        check.due("seen", x.personOf(0, 2), 2);
        check.due("neither", x.see(0, 1, 0), 2);
        check.due("known no more", x.personOf(0, 6), 0);
        check.due("blind sees", x.see(1, 0, 2), -5);
        check.due("blind half sees", x.see(1, 0, 1), -5);
        check.due("blind sees not", x.see(1, 0, 0), 0);
        check.due("blind sees badly", x.see(1, 0, 3), -2);
        check.due("see below", x.see(0, 0, -1), -2);
        check.due("nobody sees", x.see(2, 0, 1), -2);
        check.due("no sight", x.see(0, 4, 1), -2);
        check.due("hears of it", x.hear(0, 3, true), 1);
        check.due("hears of it again", x.hear(0, 3, true), 0);
        check.due("heard", x.personOf(0, 4), 8);
        check.due("unhears it", x.hear(0, 3, false), 1);
        check.due("unhears it again", x.hear(0, 3, false), 0);
        check.due("nobody hears of it", x.hear(-1, 0, true), -2);
        check.due("hears of no sight", x.hear(0, -1, true), -2);
    }

    private static void hearing() {
        OnlyUnseen x = Check.town("person 0 0;person 0 0;person 0 0");
        check.due("no pairs", x.pairs(), 0);
        check.due("all alone", x.alone(), 7);
        check.due("hears", x.near(0, 1, true), 1);
        check.due("hears again", x.near(0, 1, true), 0);
        check.due("one way is no pair", x.pairs(), 0);
        check.due("the other way", x.near(1, 0, true), 1);
        check.due("a pair", x.pairs(), 1);
        check.due("alone", x.alone(), 4);
        check.due("whom one hears", x.personOf(0, 5), 2);
        check.due("hears oneself", x.near(0, 0, true), -2);
        check.due("hears nobody there", x.near(0, 3, true), -2);
        check.due("nobody there hears", x.near(3, 0, true), -2);
        check.due("hears no more", x.near(0, 1, false), 1);
        check.due("hears still not", x.near(0, 1, false), 0);
        check.due("no pair then", x.pairs(), 0);
        check.due("alone then", x.alone(), 6);
    }

    private static void asking() {
        OnlyUnseen x = new OnlyUnseen();
        check.due("dusk", x.ask(0, 1), 0);
        check.due("dusk 2", x.ask(0, 2), -2);
        check.due("dusk back", x.ask(0, 0), 1);
        check.due("signs", x.ask(1, 9), 0);
        check.due("signs 10", x.ask(1, 10), -2);
        check.due("signs back", x.ask(1, 0), 9);
        check.due("lies", x.ask(2, 9), 0);
        check.due("lies -1", x.ask(2, -1), -2);
        check.due("lies back", x.ask(2, 3), 9);
        check.due("nothing to ask", x.ask(3, 0), -2);
        check.due("nothing to ask ahead", x.ask(-1, 0), -2);
    }

    private static void facts() {
        OnlyUnseen x = Check.town("person 0 7 saw 1 heard 2;half 0 3;person 0 0;hears 0 1;dusk 1");
        int[] facts = {0, 7, 2, 8, 4, 2, 14, 10};
        for (int what = 0; what < 8; what++) {
            check.due("personOf 0 " + what, x.personOf(0, what), facts[what]);
        }
        check.due("barred at dusk", x.barred(3), 1);
        x.ask(0, 0);
        check.due("barred by day", x.barred(3), 0);
        check.due("barred of one by day", x.personOf(0, 7), 2);
        check.due("barred seen", x.barred(1), 1);
        check.due("barred of no sight", x.barred(4), -2);
        check.due("no such fact", x.personOf(0, 8), -2);
        check.due("fact -1", x.personOf(0, -1), -2);
        check.due("of nobody", x.personOf(2, 0), -2);
        check.due("known", x.known(), 3);
    }

    private static void mays() {
        OnlyUnseen x = Check.town("person 0 0 saw 0 heard 1;person 1 0 heard 1;person 2 0 saw 1;person 3 0 saw 0;"
            + "person 4 0 heard 2;person 5 0 saw 3 heard 3;saw 3 2");
        int[][] mays = {{0, 1, 0, 0}, {0, 0, 0, 0}, {1, 0, 1, 1}, {0, 1, 0, 1}, {0, 0, 1, 0}, {0, 0, 0, 0}};
        for (int p = 0; p < 6; p++) {
            for (int sight = 0; sight < 4; sight++) {
                check.due("may " + p + " " + sight, x.may(p, sight), mays[p][sight]);
            }
        }
        check.due("mouths", x.mouths(1), 0b001001);
        x.ask(2, 1);
        check.due("lies by one", x.may(3, 0) * 10 + x.may(3, 2), 10);
        x.ask(2, 9);
        check.due("lies by many", x.mouths(2), 0b011100);
        x.near(1, 2, true);
        check.due("true by who saw", x.may(1, 1), 1);
        x.see(2, 1, 1);
        check.due("not by who half saw", x.may(1, 1), 0);
        x.hear(2, 1, true);
        check.due("true by who heard", x.may(1, 1), 1);
        x.see(1, 1, 2);
        check.due("true of what is barred", x.may(1, 1), 0);
        check.due("loudest", x.loudest(), 2);
        check.due("may of nobody", x.may(6, 0), -2);
        check.due("may of no sight", x.may(0, 4), -2);
        check.due("mouths of no sight", x.mouths(-1), -2);
        check.due("nobody is loudest", new OnlyUnseen().loudest(), -5);
    }

    private static void sayings() {
        OnlyUnseen x = Check.town("person 0 0 heard 0;person 0 0;person 0 0 heard 0;person 0 0 saw 0;hears 1 0;hears 2 0;hears 3 0");
        check.due("say", x.say(0, 0), 2);
        check.due("said", x.personOf(1, 4) * 100 + x.personOf(3, 4) * 10 + x.personOf(0, 4), 111);
        check.due("say again", x.say(0, 0), 0);
        check.due("say what one saw", x.say(3, 0), -5);
        check.due("say what is unheard", x.say(0, 1), -5);
        check.due("nobody says", x.say(4, 0), -2);
        check.due("say no sight", x.say(0, 4), -2);
        x.see(0, 3, 2);
        check.due("sign", x.sign(0, 1, 3), 1);
        check.due("signed", x.personOf(1, 4), 9);
        check.due("sign again", x.sign(0, 1, 3), 0);
        check.due("sign to who hears not", x.sign(3, 0, 0), -5);
        check.due("sign what one saw not", x.sign(0, 1, 2), -5);
        x.see(0, 2, 1);
        check.due("sign what one half saw", x.sign(0, 1, 2), -5);
        check.due("sign to nobody", x.sign(0, 4, 3), -2);
        check.due("nobody signs", x.sign(-1, 0, 3), -2);
        check.due("sign no sight", x.sign(0, 1, 4), -2);
        check.due("known", x.known(), 3 + 2 + 1 + 1);
    }

    public static void main(String[] args) {
        sights();
        persons();
        seeing();
        hearing();
        asking();
        facts();
        mays();
        sayings();
        check.end("PeopleTest");
    }
}
