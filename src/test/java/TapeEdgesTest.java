/** The tape's and the town's boundary cases, a function for each sentence of the document (1. THE TOWN; promises 15 to 17). */
public final class TapeEdgesTest {
    private static final int TAPE_MOST = 250;
    private static final String[] WHOLE = {
        "sights 5", "person 0 0", "person 0 0 saw 0", "person 0 0 heard 0", "person 0 0 saw 0 heard 0", "saw 0 0",
        "half 0 0", "heard 0 0", "hears 0 1", "dusk 0", "signs 0", "lies 0",
    };
    private static final Check check = new Check();
    private static final Trial square = new Trial(check, Trial::square);

    /** 5 SIGHTS; 0 and 1 are there, 2 is BLIND. */
    private static OnlyUnseen three() {
        OnlyUnseen x = new OnlyUnseen();
        x.sights(5);
        x.person(0, 0);
        x.person(3, 0);
        x.person(4, 0);
        return x;
    }

    private static void reads(String text, int statements) {
        OnlyUnseen x = three();
        check.due("'" + text + "'", Check.read(x, text), statements);
        check.due("'" + text + "': nothing is refused", x.status(12), 0);
        check.due("'" + text + "': the tape is empty", x.status(6), 0);
    }

    /** The fault's place is told, it's counted as BAD, THE TAPE is empty, and nothing else is changed. */
    private static void faults(String text, int place) {
        OnlyUnseen x = three();
        x.image();
        check.due("'" + text + "'", Check.read(x, text), -20 - place);
        check.due("'" + text + "' is refused", x.status(12), 1);
        check.due("'" + text + "' is refused as nothing else", Trial.refusals(x).stream().mapToLong(v -> v).sum(), 1);
        OnlyUnseen y = three();
        y.image();
        square.same("'" + text + "' changes nothing", Trial.told(x), Trial.told(y));
    }

    private static void promise15FeedCountsTo250() {
        OnlyUnseen x = new OnlyUnseen();
        for (int i = 1; i <= TAPE_MOST; i++) {
            check.due("feed " + i, x.feed(i), i <= 255 ? i : -2);
            check.due("size " + i, x.status(6), i);
        }
        check.due("feed 251", x.feed(1), -6);
        check.due("full", x.status(16), 1);
        check.due("size", x.status(6), TAPE_MOST);
    }

    private static void promise16WipeMakesEmpty() {
        OnlyUnseen x = new OnlyUnseen();
        check.due("wipe of none", x.wipe(), 0);
        for (int i = 0; i < TAPE_MOST; i++) {
            x.feed('z');
        }
        check.due("wipe of a full tape", x.wipe(), TAPE_MOST);
        check.due("wiped", x.status(6), 0);
        check.due("feed from the first", x.feed(';'), 1);
        check.due("what was wiped is not read", x.town(), -20);
    }

    private static void promise17TheTapeIsEmptyEitherWay() {
        OnlyUnseen x = new OnlyUnseen();
        check.due("good", Check.read(x, "dusk 1"), 1);
        check.due("empty behind good", x.status(6), 0);
        check.due("from the first behind good", x.feed('x'), 1);
        check.due("bad", x.town(), -20);
        check.due("empty behind bad", x.status(6), 0);
        check.due("from the first behind bad", x.feed('x'), 1);
        check.due("bad is refused", x.status(12), 1);
    }

    private static void oneStatementOrMore() {
        faults("", 0);
        faults(" ", 1);
        faults(" ".repeat(TAPE_MOST), TAPE_MOST);
        reads("dusk 1", 1);
        reads("dusk1;".repeat(40) + "dusk1", 41);
        reads("dusk 1" + " ".repeat(TAPE_MOST - 6), 1);
        reads(" ".repeat(TAPE_MOST - 6) + "dusk 1", 1);
        faults(" ".repeat(TAPE_MOST - 6) + "dusk 2", TAPE_MOST - 1);
        faults(" ".repeat(TAPE_MOST - 6) + "dusk  ", TAPE_MOST);
    }

    private static void semicolonsStandBetween() {
        faults(";", 0);
        faults(";dusk 1", 0);
        faults("dusk 1;", 7);
        faults("dusk 1;  ", 9);
        faults("dusk 1;;dusk 1", 7);
        faults("dusk 1 dusk 1", 7);
        faults("dusk;1", 4);
        reads("dusk 1;dusk 1", 2);
        reads(" dusk 1 ; dusk 1 ", 2);
    }

    private static void tokensAreAsLongAsCanBe() {
        reads("person0 0saw1heard2", 1);
        reads("saw0 1;half1 1;heard2 1;hears0 1;dusk1;signs1;lies1;sights5", 8);
        faults("sawheard 0 1", 0);
        faults("saws 0 1", 0);
        faults("sa 0 1", 0);
        faults("s aw 0 1", 0);
        faults("saw 01", 6);
        faults("heard 0 1 1", 10);
        faults("person 00", 9);
        reads("lies 09", 1);
        faults("lies 0 9", 7);
    }

    /** A WORD is told by each of its letters, and by how many they are. */
    private static void wordsAreTheseAlone() {
        for (String whole : WHOLE) {
            int length = (whole + " ").indexOf(' ');
            for (int i = 0; i < length; i++) {
                char other = whole.charAt(i) == 'q' ? 'r' : 'q';
                faults(whole.substring(0, i) + other + whole.substring(i + 1), 0);
                faults(whole.substring(0, i) + whole.substring(i + 1), 0);
                faults(whole.substring(0, i) + whole.charAt(i) + whole.substring(i), 0);
                faults(whole.substring(0, i) + (char) (whole.charAt(i) - 32) + whole.substring(i + 1), 0);
            }
            faults("x" + whole, 0);
        }
        for (String word : new String[] {"zaw", "sqw", "saq", "sa", "sawx", "heard1heard", "half"}) {
            faults("person 0 0 " + word + " 1", word.equals("heard1heard") ? 17 : 11);
        }
        for (String word : new String[] {"seard", "hears", "hear", "heards", "heart"}) {
            faults("person 0 0 saw 0 " + word + " 1", 17);
        }
    }

    /** Whatever byte stands ahead of, within and behind a STATEMENT. */
    private static void bytes() {
        for (int b = 0; b <= 255; b++) {
            char c = (char) b;
            boolean isDigit = c >= '0' && c <= '9';
            boolean isLetter = c >= 'a' && c <= 'z';
            read(c + "dusk 1", c == ' ' ? -1 : 0);
            read("dusk" + c + "1", c == ' ' || c == '0' ? -1 : isLetter ? 0 : 4);
            read("dusk 1" + c, c == ' ' ? -1 : isDigit ? 5 : c == ';' ? 7 : 6);
            read("dusk 1" + c + "lies 1", c == ';' ? -1 : isDigit ? 5 : c == ' ' ? 7 : 6);
        }
    }

    private static void read(String text, int faultOrNone) {
        if (faultOrNone >= 0) {
            faults(text, faultOrNone);
        } else {
            reads(text, text.indexOf(';') < 0 ? 1 : 2);
        }
    }

    private static void itEndsTooEarly() {
        for (String whole : WHOLE) {
            String[] words = whole.split(" ");
            StringBuilder text = new StringBuilder();
            for (String word : words) {
                boolean isWhole = text.toString().equals("person 0 0 ") || text.toString().equals("person 0 0 saw 0 ");
                if (text.length() > 0 && !isWhole) {
                    faults(text.toString().trim(), text.length() - 1);
                    faults(text.toString(), text.length());
                    faults(text + "  ", text.length() + 2);
                    faults(text + ";", text.length());
                }
                text.append(word).append(' ');
            }
            reads(whole, 1);
        }
    }

    /** In place of N each NUMBER of two digits at most, of one digit and of two; of three it's a fault. */
    private static void number(String text, int least, int most, int... butNot) {
        int place = text.indexOf('N');
        for (int v = 0; v < 100; v++) {
            boolean may = v >= least && v <= most;
            for (int but : butNot) {
                may = may && v != but;
            }
            for (String digits : v < 10 ? new String[] {"" + v, "0" + v} : new String[] {"" + v}) {
                String with = text.replace("N", digits);
                if (may) {
                    reads(with, with.split(";").length);
                } else {
                    faults(with, place);
                }
            }
        }
        faults(text.replace("N", "00" + least), place);
        faults(text.replace("N", "100"), place);
        faults(text.replace("N", "4294967296"), place);
        faults(text.replace("N", "-1"), place);
        faults(text.replace("N", "x"), place);
        faults(text.replace("N", ";"), place);
    }

    private static void numbersThatMayBe() {
        number("sights N", 5, 8);
        number("sights 7;sights N", 7, 8);
        number("person N 0", 0, 5);
        number("person 5 N", 0, 9);
        number("person 0 0 saw N", 0, 4);
        number("person 0 0 heard N", 0, 4);
        number("person 4 0 heard N", 0, 4);
        number("person 0 0 saw 4 heard N", 0, 4);
        number("saw N 0", 0, 1);
        number("saw 0 N", 0, 4);
        number("half N 0", 0, 1);
        number("half 0 N", 0, 4);
        number("heard N 0", 0, 2);
        number("heard 2 N", 0, 4);
        number("hears 1 N", 0, 2, 1);
        number("hears 0 N", 1, 2);
        number("hears 2 N", 0, 1);
        number("dusk N", 0, 1);
        number("signs N", 0, 9);
        number("lies N", 0, 9);
    }

    private static void sightsAndPeopleThatThereAreByThen() {
        number("sights 8;saw 0 N", 0, 7);
        number("sights 8;half 0 N", 0, 7);
        number("sights 8;heard 0 N", 0, 7);
        number("sights 8;person 0 0 saw N", 0, 7);
        number("person 0 0;heard N 0", 0, 3);
        number("person 0 0;saw N 0", 0, 3, 2);
        number("person 4 0;half N 0", 0, 1);
        number("person 4 0;hears 0 N", 1, 3);
        for (int p = 0; p < 100; p++) {
            // whom one hears is none there, so that alone is at fault if one is
            faults("hears " + p + " 9", p <= 2 ? 8 : 6);
            faults("person 0 0;hears " + p + " 9", p <= 3 ? 19 : 17);
        }
        faults("saw 0 5;sights 6", 6);
        faults("heard 3 0;person 0 0", 6);
        faults("hears 2 2", 8);
        faults("hears 3 3", 6);
    }

    private static void fewAreThere() {
        OnlyUnseen x = new OnlyUnseen();
        for (String word : new String[] {"saw", "half", "heard", "hears"}) {
            check.due(word + " of nobody", Check.read(x, word + " 0 0"), -20 - word.length() - 1);
        }
        check.due("one alone hears nobody", Check.read(x, "person 0 0;hears 0 0"), -20 - 19);
        check.due("nobody then", x.status(1), 0);
        check.due("fewer sights", Check.read(x, "sights 3"), -27);
        check.due("as many sights", Check.read(x, "sights 4"), 1);
        check.due("most sights", Check.read(x, "sights 8"), 1);
        check.due("one beyond", Check.read(x, "sights 9"), -27);
        check.due("one below", Check.read(x, "sights 7"), -27);
        check.due("sights", x.status(0), 8);
    }

    private static void personSaysSawAndHeardInThisOrderOneEach() {
        reads("person 0 0 saw 1 heard 1", 1);
        faults("person 0 0 heard 1 saw 1", 19);
        faults("person 0 0 saw 1 saw 1", 17);
        faults("person 0 0 heard 1 heard 1", 19);
        faults("person 0 0 saw 1 heard 1 saw 1", 25);
        faults("person 0 0 saw 1 heard 1 heard 1", 25);
        faults("person 0 0 half 1", 11);
        faults("person 0 0 hears 1", 11);
        faults("person 0 0 saw heard 1", 15);
        faults("person 0 saw 1", 9);
    }

    private static void aBlindOneCannotHaveSeen() {
        faults("person 4 0 saw 0", 11);
        faults("person 4 0 saw", 11);
        faults("person 4 0 saw 9", 11);
        reads("person 4 0 heard 0", 1);
        faults("saw 2 0", 4);
        faults("half 2 0", 5);
        faults("saw 2", 4);
        faults("half 2 9", 5);
        faults("person 4 0;saw 3 0", 15);
        faults("person 4 0;half 3 0", 16);
        reads("heard 2 0", 1);
        aBlindOneOfNumber(0);
        aBlindOneOfNumber(6);
        for (int kind = 0; kind < 6; kind++) {
            if (kind != 4) {
                reads("person " + kind + " 0 saw 0;saw 3 1;half 3 2", 3);
            }
        }
    }

    private static void aBlindOneOfNumber(int one) {
        OnlyUnseen x = new OnlyUnseen();
        for (int p = 0; p < 7; p++) {
            x.person(p == one ? 4 : 0, 0);
        }
        for (int p = 0; p < 7; p++) {
            check.due("saw " + p + ", blind " + one, Check.read(x, "saw " + p + " 0"), p == one ? -24 : 1);
            check.due("half " + p + ", blind " + one, Check.read(x, "half " + p + " 0"), p == one ? -25 : 1);
            check.due("heard " + p + ", blind " + one, Check.read(x, "heard " + p + " 0"), 1);
        }
    }

    private static void whatThereIsNoRoomFor() {
        OnlyUnseen x = Trial.full();
        check.due("blanks", x.town(), -270);
        check.due("no room", Check.read(x, "person 0 0"), -20);
        check.due("no room, whatever stands behind", Check.read(x, "person 9 x"), -20);
        check.due("no room, nothing behind", Check.read(x, "person"), -20);
        check.due("no room behind another", Check.read(x, "lies 1;person 0 0"), -27);
        check.due("no lies by that", x.status(4), 0);
        check.due("a fault ahead of no room", Check.read(x, "lies x;person 0 0"), -25);
        check.due("the rest may be", Check.read(x, "hears 6 0;saw 6 7;half 5 7;heard 4 7;sights 8"), 5);
        check.due("all refused", x.status(12), 6);

        OnlyUnseen y = three();
        check.due("one too many", Check.read(y, "person 0 0;person 0 0;person 0 0;person 0 0;person 0 0"), -20 - 44);
        check.due("none of them", y.status(1), 3);
        check.due("as many as may be", Check.read(y, "person 0 0;person 0 0;person 0 0;person 0 0"), 4);
        check.due("all of them", y.status(1), 7);
        check.due("not one more", Check.read(y, "person 0 0"), -20);
        check.due("not FULL but BAD", y.status(16), 0);
    }

    private static void theFirstOfTwoFaults() {
        faults("lies 10;dusk 2", 5);
        faults("lies x;!", 5);
        faults("lies 1!;x", 6);
        faults("x;lies 10", 0);
        faults("hears 9 9", 6);
    }

    private static void allOrNothing() {
        OnlyUnseen x = three();
        String good = "sights 6;person 5 3 saw 1 heard 2;saw 0 5;half 1 4;heard 2 3;hears 0 3;dusk 1;signs 2;lies 3";
        faults(good + ";dusk 2", good.length() + 6);
        faults(good + ";", good.length() + 1);
        faults(good + " x", good.length() + 1);
        check.due("all", Check.read(x, good), 9);
        int[] status = {6, 4, 1, 2, 3};
        for (int what = 0; what < status.length; what++) {
            check.due("all: status " + what, x.status(what), status[what]);
        }
        int[] facts = {5, 3, 2, 0, 4, 0, 6, 2};
        for (int what = 0; what < facts.length; what++) {
            check.due("all: who came " + what, x.personOf(3, what), facts[what]);
        }
        check.due("all: 0", x.personOf(0, 2) * 100 + x.personOf(0, 5), 3208);
        check.due("all: 1", x.personOf(1, 3), 16);
        check.due("all: 2", x.personOf(2, 4), 8);
        check.due("all: the seed is as it was", x.status(7), 1);
    }

    private static void anotherWayOfHavingSeenTakesTheFirstsPlace() {
        OnlyUnseen x = three();
        check.due("seen, then half", Check.read(x, "saw 0 1;half 0 1"), 2);
        check.due("half alone", x.personOf(0, 2) * 10 + x.personOf(0, 3), 2);
        check.due("then seen", Check.read(x, "saw 0 1"), 1);
        check.due("seen alone", x.personOf(0, 2) * 10 + x.personOf(0, 3), 20);
        check.due("heard beside", Check.read(x, "heard 0 1;heard 0 1"), 2);
        check.due("seen and heard", x.personOf(0, 2) * 10 + x.personOf(0, 4), 22);
    }

    public static void main(String[] args) {
        promise15FeedCountsTo250();
        promise16WipeMakesEmpty();
        promise17TheTapeIsEmptyEitherWay();
        oneStatementOrMore();
        semicolonsStandBetween();
        tokensAreAsLongAsCanBe();
        wordsAreTheseAlone();
        bytes();
        itEndsTooEarly();
        numbersThatMayBe();
        sightsAndPeopleThatThereAreByThen();
        fewAreThere();
        personSaysSawAndHeardInThisOrderOneEach();
        aBlindOneCannotHaveSeen();
        whatThereIsNoRoomFor();
        theFirstOfTwoFaults();
        allOrNothing();
        anotherWayOfHavingSeenTakesTheFirstsPlace();
        check.end("TapeEdgesTest");
    }
}
