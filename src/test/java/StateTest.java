/** Promises 52 to 55: the seed, what is kept, and what status tells. */
public final class StateTest {
    private static final Check check = new Check();

    private static void seeds() {
        OnlyUnseen x = new OnlyUnseen();
        check.due("seed", x.seed(-7), 1);
        check.due("seed then", x.status(7), -7);
        check.due("seed again", x.seed(Integer.MIN_VALUE), -7);
        check.due("seed at last", x.seed(0), Integer.MIN_VALUE);
    }

    private static void keeping() {
        OnlyUnseen x = Check.town("person 0 3 saw 1 heard 2;person 5 0;half 1 3;hears 0 1;dusk 1;signs 2;lies 3");
        check.due("back to nothing", x.back(), -5);
        check.due("back refused", x.status(15), 1);
        x.night();
        x.seed(77);
        check.due("image", x.image(), 1);
        x.sights(8);
        x.person(1, 1);
        x.see(0, 1, 0);
        x.see(1, 3, 2);
        x.hear(0, 2, false);
        x.near(0, 1, false);
        x.ask(0, 0);
        x.ask(1, 0);
        x.ask(2, 0);
        x.seed(1);
        x.night();
        x.feed(1);
        x.show(0, 1);
        x.show(1, 2);
        x.row(2, 0, 3);
        x.set(2, 1, 5);
        x.status(99);
        x.sights(0);
        check.due("back", x.back(), 1);
        int[] facts = {0, 3, 2, 0, 4, 2, 6, 2};
        for (int what = 0; what < 8; what++) {
            check.due("back: personOf 0 " + what, x.personOf(0, what), facts[what]);
        }
        check.due("back: half of 1", x.personOf(1, 3), 8);
        int[] answers = {4, 2, 1, 2, 3, 1, 1, 77, 2, 3, 0, -1, 1, 0, 0, 1, 0, -1};
        for (int what = 0; what < answers.length; what++) {
            check.due("back: status " + what, x.status(what), answers[what]);
        }
        check.due("back: somebody there", x.holds(0), 11);
        check.due("back: somebody gone", x.holds(1), -1);
        check.due("back: a row", x.element(2, 1), 5);
        x.person(0, 0);
        check.due("back again", x.back(), 1);
        check.due("back again: people", x.status(1), 2);
    }

    private static void statuses() {
        OnlyUnseen x = new OnlyUnseen();
        check.due("status -1", x.status(-1), -1);
        check.due("status 11", x.status(11), -1);
        check.due("status 17", x.status(17), -1);
        x.sights(1);
        x.person(0, 0);
        x.show(0, 0);
        x.set(0, 0, 0);
        x.set(1, 0, 0);
        x.back();
        x.dusk(-1);
        for (int p = 0; p < 7; p++) {
            x.person(0, 0);
        }
        check.due("bad", x.status(12), 2);
        check.due("other", x.status(13), 1);
        check.due("nothing", x.status(14), 1);
        check.due("stuck", x.status(15), 1);
        check.due("full", x.status(16), 1);
        x.row(1, 0, 0);
        check.due("shelves", x.status(8), 2);
        x.near(0, 1, true);
        x.near(1, 0, true);
        check.due("pairs", x.status(10), 1);
    }

    public static void main(String[] args) {
        seeds();
        keeping();
        statuses();
        check.end("StateTest");
    }
}
