/** Promises 1 to 8, 41 and 42: shelves, rows, what somebody says as one of a kind, whom to ask. */
public final class ShelvesTest {
    private static final Check check = new Check();

    private static void aNewObject() {
        OnlyUnseen x = new OnlyUnseen();
        check.due("new: sights", x.status(0), 4);
        check.due("new: people", x.status(1), 0);
        for (int s = 0; s < 8; s++) {
            check.due("new: holds " + s, x.holds(s), -1);
        }
        check.due("new: tape", x.status(6), 0);
        check.due("new: seed", x.status(7), 1);
        check.due("new: evenings", x.status(5), 0);
    }

    private static void rows() {
        OnlyUnseen x = new OnlyUnseen();
        check.due("row of none", x.row(0, 0, 0), 1);
        check.due("row of most", x.row(7, 4, 40), 1);
        check.due("row of too many", x.row(0, 0, 41), -2);
        check.due("row below none", x.row(0, 0, -1), -2);
        check.due("row of no sort", x.row(0, 5, 1), -2);
        check.due("row of sort -1", x.row(0, -1, 1), -2);
        check.due("row in no shelf", x.row(8, 0, 1), -2);
        check.due("row in shelf -1", x.row(-1, 0, 1), -2);
        check.due("kept sort", x.holds(0), 0);
        check.due("booleans", x.holds(7), 4);
        x.set(7, 3, 9);
        check.due("a new row again", x.row(7, 4, 40), 1);
        check.due("a new row is empty", x.element(7, 3), 0);
    }

    private static void elements() {
        OnlyUnseen x = new OnlyUnseen();
        long v = (1L << 40) + (1L << 31) + (1L << 15) + 200;
        long[] kept = {(byte) 200, (short) ((1 << 15) + 200), Integer.MIN_VALUE + (1 << 15) + 200, v, 1};
        for (int sort = 0; sort < 5; sort++) {
            x.row(sort, sort, 2);
            check.due("set", x.set(sort, 1, v), 1);
            check.due("element of sort " + sort, x.element(sort, 1), kept[sort]);
            check.due("element beside", x.element(sort, 0), 0);
        }
        check.due("set false", x.set(4, 1, 0), 1);
        check.due("element false", x.element(4, 1), 0);
        check.due("element behind", x.element(0, 2), 0);
        check.due("element ahead", x.element(0, -1), 0);
        check.due("element of no shelf", x.element(8, 0), 0);
        check.due("element of nothing", x.element(7, 0), 0);
        check.due("set behind", x.set(0, 2, 1), -2);
        check.due("set ahead", x.set(0, -1, 1), -2);
        check.due("set in no shelf", x.set(8, 0, 1), -2);
        check.due("set in nothing", x.set(7, 0, 1), -4);
        x.person(0, 0);
        x.show(6, 0);
        check.due("set in somebody", x.set(6, 99, 1), -3);
        check.due("element of somebody", x.element(6, 0), 0);
        check.due("refused by element", x.status(12) + x.status(13) + x.status(14), 5);
    }

    private static void copies() {
        OnlyUnseen x = Check.withRow(new OnlyUnseen(), 1, 2, 3, 4, 5);
        check.due("copy over itself", x.copy(0, 0, 0, 2, 3), 3);
        int[] forth = {1, 2, 1, 2, 3};
        for (int i = 0; i < 5; i++) {
            check.due("copied " + i, x.element(0, i), forth[i]);
        }
        check.due("copy back over itself", x.copy(0, 0, 1, 0, 4), 4);
        check.due("copied back", x.element(0, 0) * 100 + x.element(0, 1) * 10 + x.element(0, 4), 213);
        x.row(1, 2, 2);
        x.row(2, 1, 2);
        x.person(0, 0);
        x.show(3, 0);
        check.due("copy all", x.copy(0, 1, 3, 0, 2), 2);
        check.due("copied", x.element(1, 0) * 10 + x.element(1, 1), 33);
        check.due("copy none at the end", x.copy(0, 1, 5, 2, 0), 0);
        check.due("copy none behind", x.copy(0, 1, 6, 0, 0), -2);
        check.due("copy too many", x.copy(0, 1, 3, 1, 2), -2);
        check.due("copy from behind", x.copy(0, 1, 4, 0, 2), -2);
        check.due("copy below none", x.copy(0, 1, 0, 0, -1), -2);
        check.due("copy far", x.copy(0, 1, Integer.MAX_VALUE, 0, Integer.MAX_VALUE), -2);
        check.due("copy from ahead", x.copy(0, 1, -1, 0, 1), -2);
        check.due("copy to ahead", x.copy(0, 1, 0, -1, 1), -2);
        check.due("copy of two sorts", x.copy(0, 2, 9, 9, 9), -3);
        check.due("copy to somebody", x.copy(0, 3, 0, 0, 1), -3);
        check.due("copy from nothing to somebody", x.copy(4, 3, 0, 0, 1), -3);
        check.due("copy from nothing", x.copy(4, 0, 9, 9, 9), -4);
        check.due("copy to nothing", x.copy(0, 4, 0, 0, 1), -4);
        check.due("copy to no shelf", x.copy(3, 8, 0, 0, 1), -2);
        check.due("copy from no shelf", x.copy(-1, 3, 0, 0, 1), -2);
    }

    private static void showing() {
        OnlyUnseen x = new OnlyUnseen();
        check.due("show nobody there", x.show(0, 0), -2);
        x.person(0, 0);
        x.person(0, 0);
        check.due("show", x.show(0, 1), 1);
        check.due("shown", x.holds(0), 11);
        check.due("show over it", x.show(0, 0), 1);
        check.due("shown over it", x.holds(0), 10);
        check.due("show none", x.show(0, -1), 1);
        check.due("nothing", x.holds(0), -1);
        check.due("show below none", x.show(0, -2), -2);
        check.due("show in no shelf", x.show(8, 0), -2);
        check.due("no shelf", x.holds(8), -1);
        check.due("no shelf ahead", x.holds(-1), -1);
    }

    private static void saying() {
        OnlyUnseen x = Check.town("person 3 0 saw 1 heard 2;person 1 0;person 5 0 saw 2;lies 1;hears 0 1;half 0 3;dusk 1");
        x.hear(0, 1, true);
        for (int s = 0; s < 3; s++) {
            x.show(s, s);
        }
        check.due("says as person", x.says(0, 0), 7);
        check.due("says as guess", x.says(0, 2), 2);
        check.due("says as liar", x.says(0, 3), 1);
        check.due("a liar is not true", x.says(0, 1), -3);
        check.due("a liar is not blind", x.says(0, 4), -3);
        check.due("a liar forgets not", x.says(0, 5), -3);
        check.due("says as true", x.says(1, 1), 0);
        check.due("who is true is no guess", x.says(1, 2), -3);
        check.due("says as forgets", x.says(2, 5), 2);
        x.see(2, 2, 0);
        check.due("says as forgets, none seen", x.says(2, 5), -1);
        x.see(0, 1, 0);
        x.ask(0, 0);
        check.due("says as liar, none barred", x.says(0, 3), -1);
        x.person(4, 0);
        x.hear(3, 0, true);
        x.hear(3, 3, true);
        x.show(3, 3);
        check.due("says as blind", x.says(3, 4), 2);
        x.person(2, 0);
        x.show(4, 4);
        check.due("a guess is no liar", x.says(4, 3), -3);
        check.due("says of no kind", x.says(4, 6), -2);
        check.due("says of kind -1", x.says(4, -1), -2);
        check.due("says of no shelf", x.says(8, 0), -2);
        check.due("says of nothing", x.says(7, 0), -4);
        x.row(7, 0, 1);
        check.due("says of a row", x.says(7, 0), -3);
    }

    private static void asking() {
        OnlyUnseen x = Check.town("person 0 0;person 0 0;person 0 0;person 0 0");
        Check.withRow(x, 0b0011, 0b0101, 0b0110, 0b0011);
        check.due("whom, two of three", x.whom(0, 3), 0b0011);
        check.due("whom, the same sets", x.whom(0, 1), 0);
        check.due("whom, least of one", x.whom(0, 2), 0b0010);
        check.due("parts by one", x.parts(0, 3, 0b0001), 0);
        check.due("parts by two", x.parts(0, 3, 0b0110), 1);
        check.due("parts with like sets", x.parts(0, 4, 0b0110), 1);
        check.due("parts by others", x.parts(0, 2, 0b1001), 0);
        check.due("parts by nobody there", x.parts(0, 2, 0b10000), -2);
        check.due("parts below", x.parts(0, 2, -1), -2);
        Check.withRow(x, 16, 32, 0);
        check.due("whom, no one's bits", x.whom(0, 3), 0);
        check.due("parts, no one's bits", x.parts(0, 3, 0), 1);
        x.row(1, 0, 11);
        x.show(2, 0);
        check.due("whom of too many", x.whom(1, 11), -2);
        check.due("whom of none", x.whom(1, 0), -2);
        check.due("whom of fewer", x.whom(0, 4), -2);
        check.due("whom of nothing", x.whom(3, 1), -4);
        check.due("whom of somebody", x.whom(2, 1), -3);
        check.due("whom of no shelf", x.whom(8, 1), -2);
        check.due("parts of ten", x.parts(1, 10, 15), 1);
        check.due("parts of too many", x.parts(1, 11, 0), -2);
        check.due("parts of somebody", x.parts(2, 1, 0), -3);
        check.due("parts, bad set of somebody", x.parts(2, 1, 16), -2);
        check.due("parts of nothing", x.parts(3, 1, 0), -4);
        check.due("parts of fewer", x.parts(0, 4, 0), -2);
    }

    public static void main(String[] args) {
        aNewObject();
        rows();
        elements();
        copies();
        showing();
        saying();
        asking();
        check.end("ShelvesTest");
    }
}
