/** Promises 15 to 17: the tape and the town read from it. */
public final class TapeTest {
    private static final Check check = new Check();

    private static void bytes() {
        OnlyUnseen x = new OnlyUnseen();
        check.due("feed below", x.feed(-1), -2);
        check.due("feed too much", x.feed(256), -2);
        check.due("feed least", x.feed(0), 1);
        check.due("feed most", x.feed(255), 2);
        check.due("wipe", x.wipe(), 2);
        check.due("wipe again", x.wipe(), 0);
        for (int i = 1; i <= 250; i++) {
            check.due("feed " + i, x.feed(' '), i);
        }
        check.due("feed a full tape", x.feed(' '), -6);
        check.due("feed a full tape badly", x.feed(256), -2);
        check.due("size", x.status(6), 250);
        check.due("blanks end too early", x.town(), -270);
        check.due("empty then", x.status(6), 0);
    }

    private static void fault(String text, int place) {
        OnlyUnseen x = Check.town("person 0 0; person 4 0; sights 5");
        check.due("'" + text + "'", Check.read(x, text), -20 - place);
        check.due("refused by '" + text + "'", x.status(12), 1);
        check.due("the tape behind '" + text + "'", x.status(6), 0);
        check.due("people behind '" + text + "'", x.status(1), 2);
        check.due("known behind '" + text + "'", x.known(), 0);
        check.due("sights behind '" + text + "'", x.status(0), 5);
    }

    private static void faults() {
        fault("", 0);
        fault("   ", 3);
        fault(";", 0);
        fault("heard 0 1;", 10);
        fault("heard 0 1; ", 11);
        fault("heard 0 1;;", 10);
        fault("heard 0 1 heard 0 2", 10);
        fault("heard 0 1-", 9);
        fault("heard 0 5", 8);
        fault("heard 0 ", 8);
        fault("heard 0", 7);
        fault("heard 2 0", 6);
        fault("heard x 0", 6);
        fault("heard 0; 0", 7);
        fault("heards 0 0", 0);
        fault("hear 0 0", 0);
        fault("sawz 0 0", 0);
        fault("saw{0 0", 3);
        fault("saw`0 0", 3);
        fault("saw/0 0", 3);
        fault("saw:0 0", 3);
        fault("Heard 0 0", 0);
        fault("0", 0);
        fault("heard 000 1", 6);
        fault("heard 0 001", 8);
        fault("sights 4", 7);
        fault("sights 9", 7);
        fault("sights 6; sights 5", 17);
        fault("person 6 0", 7);
        fault("person 0 10", 9);
        fault("person 0 0 heard 1 saw 1", 19);
        fault("person 0 0 saw 1 saw 2", 17);
        fault("person 0 0 half 1", 11);
        fault("person 4 0 saw 1", 11);
        fault("person 0 0 saw 5", 15);
        fault("person 0 0 heard", 16);
        fault("saw 1 0", 4);
        fault("half 1 0", 5);
        fault("hears 0 0", 8);
        fault("hears 0 2", 8);
        fault("hears 2 0", 6);
        fault("dusk 2", 5);
        fault("signs 10", 6);
        fault("lies 10", 5);
        fault("saw 0 1; saw 1 1", 13);
        fault("\t", 0);
        fault("lies 1 \u00ff", 7);
    }

    private static void towns() {
        OnlyUnseen x = new OnlyUnseen();
        String text = "sights 06;person 0 01saw 5heard 4 ; person03 9;person 4 0 heard 0;"
            + "saw 0 1;half 0 5;heard 1 2;hears 2 0;dusk 1;signs 9;lies 03";
        check.due("town", Check.read(x, text), 11);
        check.due("sights", x.status(0), 6);
        check.due("people", x.status(1), 3);
        check.due("dusk, signs, lies", x.status(2) * 100 + x.status(3) * 10 + x.status(4), 193);
        check.due("a", x.personOf(0, 1) * 10 + x.personOf(1, 1), 19);
        check.due("kind", x.personOf(1, 0), 3);
        check.due("seen", x.personOf(0, 2), 2);
        check.due("half behind seen", x.personOf(0, 3), 32);
        check.due("heard", x.personOf(0, 4) * 100 + x.personOf(1, 4) * 10 + x.personOf(2, 4), 1641);
        check.due("hears", x.personOf(2, 5), 1);
        check.due("to nought again", Check.read(x, "dusk 0;signs 00;lies 0"), 3);
        check.due("nought", x.status(2) + x.status(3) + x.status(4), 0);
        check.due("the last one hears", Check.read(x, "heard 2 5;hears 2 1;hears 1 2"), 3);
        check.due("heard by the last one", x.personOf(2, 4) * 10 + x.personOf(2, 5), 333);
        check.due("town behind a town", Check.read(x, "sights 6;person 0 0;hears 3 0"), 3);
        check.due("people then", x.status(1), 4);
        check.due("nothing refused", x.status(12), 0);
    }

    private static void full() {
        OnlyUnseen x = Check.town("person 0 0;person 0 0;person 0 0;person 0 0;person 0 0;person 0 0");
        check.due("no room", Check.read(x, "person 0 0; person 9"), -32);
        check.due("all or nothing", x.status(1), 6);
        check.due("room for one", Check.read(x, "person 0 0"), 1);
        check.due("seven", x.status(1), 7);
        check.due("the last hears", Check.read(x, "hears 6 0"), 1);
    }

    public static void main(String[] args) {
        bytes();
        faults();
        towns();
        full();
        check.end("TapeTest");
    }
}
