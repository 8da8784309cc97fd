/** Promises 43 to 49 and 51: evenings told and judged, talk by draws, nights. */
public final class EveningsTest {
    private static final String RING = "person 0 0 heard 0;person 0 0;person 2 0 saw 0;hears 1 0;hears 2 1;hears 0 2";
    private static final Check check = new Check();

    private static void judging() {
        OnlyUnseen x = Check.withRow(Check.town(RING), 0, 10, 21);
        check.due("judge", x.judge(0, 3), -1);
        check.due("judge none", x.judge(0, 0), -1);
        check.due("nothing is changed", x.known(), 2);
        check.due("heard by 2", x.heard(0, 3, 2), 1);
        check.due("heard by 0", x.heard(0, 3, 0), 3);
        check.due("heard by 0 ahead", x.heard(0, 2, 0), 1);
        check.due("nothing is changed still", x.known(), 2);
        check.due("evening", x.evening(0, 3), 4);
        check.due("known then", x.known(), 4);
        check.due("evenings are nights", x.status(5), 0);
        int[][] wrong = {{10, 0, 0}, {0, 20, 1}, {0, 30, 1}, {0, 4, 1}, {0, -1, 1}, {-10, 0, 0}, {0, 11, 1}, {9, 0, 0}};
        for (int[] w : wrong) {
            OnlyUnseen y = Check.withRow(Check.town(RING), w[0], w[1]);
            check.due("judge " + w[0] + " " + w[1], y.judge(0, 2), w[2]);
            check.due("heard of a wrong one", y.heard(0, 2, 0), -5);
            check.due("evening of a wrong one", y.evening(0, 2), -5);
            check.due("refused", y.status(15), 2);
            check.due("nothing is said", y.known(), 2);
        }
    }

    private static void longSayings() {
        OnlyUnseen x = Check.town(RING);
        x.row(0, 3, 1);
        x.set(0, 0, 1L << 32);
        check.due("a saying beyond ints", x.judge(0, 1), 0);
        check.due("falsely beyond ints", x.falsely(0, 1), -2);
        x.set(0, 0, Long.MIN_VALUE);
        check.due("surely below", x.surely(0, 1, 0), -2);
    }

    private static void refusals() {
        OnlyUnseen x = Check.withRow(Check.town(RING), 0, 10);
        x.show(1, 0);
        x.row(3, 0, 40);
        int[][] bad = {{8, 0, -2}, {-1, 0, -2}, {0, 41, -2}, {0, -1, -2}, {0, 3, -2}, {1, 0, -3}, {1, 41, -2}, {2, 0, -4}, {2, 41, -2}};
        for (int[] b : bad) {
            String of = " of " + b[0] + " " + b[1];
            check.due("judge" + of, x.judge(b[0], b[1]), b[2]);
            check.due("heard" + of, x.heard(b[0], b[1], 0), b[2]);
            check.due("falsely" + of, x.falsely(b[0], b[1]), b[2]);
            check.due("surely" + of, x.surely(b[0], b[1], 0), b[2]);
            check.due("free" + of, x.free(b[0], b[1], 0), b[2]);
            check.due("evening" + of, x.evening(b[0], b[1]), b[2]);
        }
        check.due("heard by nobody", x.heard(1, 0, 3), -2);
        check.due("surely of no sight", x.surely(1, 0, 4), -2);
        check.due("free of no sight", x.free(2, 0, -1), -2);
        check.due("forty", x.falsely(3, 40), 0);
        Check.withRow(x, 0, 30);
        check.due("falsely of no saying", x.falsely(0, 2), -2);
        check.due("surely of no saying", x.surely(0, 2, 0), -2);
        check.due("free of no saying", x.free(0, 2, 0), -2);
        Check.withRow(x, 0, 24);
        check.due("falsely of no sight", x.falsely(0, 2), -2);
        check.due("surely of a saying of no sight", x.surely(0, 2, 0), -2);
        check.due("free of a saying of no sight", x.free(0, 2, 0), -2);
        check.due("free ahead of it", x.free(0, 1, 0), 2);
    }

    private static void falseOnes() {
        OnlyUnseen x = Check.withRow(Check.town(RING), 20, 20, 21, 0, 10);
        check.due("falsely", x.falsely(0, 5), 2);
        check.due("falsely ahead", x.falsely(0, 1), 1);
        x.see(0, 0, 1);
        check.due("falsely by day", x.falsely(0, 5), 2);
        x.ask(0, 1);
        check.due("falsely at dusk", x.falsely(0, 5), 3);
    }

    private static void silence(String call, OnlyUnseen x, int n, int surely, int free) {
        check.due("surely, " + call, x.surely(0, n, 0), surely);
        check.due("free, " + call, x.free(0, n, 0), free);
    }

    private static void silentOnes() {
        OnlyUnseen x = Check.town("person 0 0;person 0 0 saw 0;person 0 0;person 0 0;hears 1 0;hears 2 0;hears 3 0;hears 0 1");
        silence("one answers", Check.withRow(x, 0, 20), 2, 2, 8);
        silence("one spoke ahead", Check.withRow(x, 20, 0), 2, 2, 12);
        silence("who is barred answers", Check.withRow(x, 0, 10), 2, 0, 13);
        silence("of another sight", Check.withRow(x, 1, 21), 2, 0, 0);
        silence("nobody hears it", Check.withRow(x, 20), 1, 0, 0);
        silence("none", Check.withRow(x), 0, 0, 0);
        silence("said twice", Check.withRow(x, 0, 20, 0), 3, 2, 8);
        check.due("surely of 1", Check.withRow(x, 1, 21).surely(0, 2, 1), 0);
        check.due("free of 1", x.free(0, 2, 1), 10);
        OnlyUnseen y = Check.town("person 0 0;person 1 0;person 3 0 saw 0;person 2 0;hears 1 0;hears 2 0;hears 3 0;lies 1");
        silence("by kinds", Check.withRow(y, 0), 1, 4, 8);
        y.hear(0, 0, true);
        silence("who is true by who heard", Check.withRow(y, 0), 1, 4, 10);
    }

    private static void talking() {
        OnlyUnseen x = Check.town("person 2 0;person 0 0;hears 1 0");
        check.due("talk of none", x.talk(0), -2);
        check.due("talk of too many", x.talk(41), -2);
        check.due("nothing is drawn", x.status(7), 1);
        check.due("talk", x.talk(1), 1);
        check.due("talked", x.personOf(1, 4), 4);
        check.due("seed then", x.seed(1), -1770082073);
        x.see(0, 2, 2);
        check.due("talk of what is barred", x.talk(1), 0);
        check.due("seed the same", x.status(7), -1770082073);
        check.due("talk of nobody", new OnlyUnseen().talk(1), -5);
        check.due("talk of nobody, too many", new OnlyUnseen().talk(41), -2);
    }

    private static void nights() {
        OnlyUnseen x = Check.town("person 5 0 saw 1;saw 0 3;half 0 0;person 0 0 saw 1;person 5 0");
        check.due("night", x.night(), 1);
        check.due("forgotten", x.personOf(0, 2) * 100 + x.personOf(0, 3) * 10 + x.personOf(0, 4), 812);
        check.due("not forgotten", x.personOf(1, 2), 2);
        check.due("known still", x.known(), 4);
        check.due("may say it", x.may(0, 1), 1);
        check.due("night again", x.night(), 2);
        check.due("forgotten again", x.personOf(0, 2) * 100 + x.personOf(0, 4), 10);
        check.due("a night for nothing", x.night(), 3);
        check.due("half seen still", x.personOf(0, 3), 1);
        check.due("evenings", x.status(5), 3);
    }

    public static void main(String[] args) {
        judging();
        longSayings();
        refusals();
        falseOnes();
        silentOnes();
        talking();
        nights();
        check.end("EveningsTest");
    }
}
