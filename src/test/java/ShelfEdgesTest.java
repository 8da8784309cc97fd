/** SHELVES and ROWS: the boundary cases of 3. (SHELVES ..) and of promises 1 to 8, a function for each sentence. */
public final class ShelfEdgesTest {
    private static final int BYTES = 0;
    private static final int SHORTS = 1;
    private static final int INTS = 2;
    private static final int LONGS = 3;
    private static final int BOOLEANS = 4;
    private static final Check check = new Check();

    private static void promise1ANewObject() {
        OnlyUnseen x = new OnlyUnseen();
        int[] status = {4, 0, 0, 0, 0, 0, 0, 1, 0, 0, 0, -1, 0, 0, 0, 0, 0};
        for (int what = 0; what < status.length; what++) {
            check.due("new: status " + what, x.status(what), status[what]);
        }
        for (int s = 0; s < 8; s++) {
            check.due("new: holds " + s, x.holds(s), -1);
            check.due("new: element of " + s, x.element(s, 0), 0);
        }
        check.due("new: tape", x.wipe(), 0);
        check.due("new: nothing kept", x.back(), -5);
        x.person(2, 0);
        for (int sight = 0; sight < 4; sight++) {
            check.due("new: a SIGHT " + sight, x.may(0, sight), 1);
        }
        check.due("new: no fifth SIGHT", x.may(0, 4), -2);
    }

    private static void eightShelvesEachOfItsOwn() {
        OnlyUnseen x = new OnlyUnseen();
        for (int p = 0; p < 7; p++) {
            x.person(0, 0);
        }
        for (int s = 0; s < 8; s++) {
            check.due("row in " + s, x.row(s, LONGS, 40), 1);
            check.due("shelves that hold something", x.status(8), s + 1);
        }
        for (int s = 0; s < 8; s++) {
            for (int i = 0; i < 40; i += 39) {
                check.due("set " + s + " " + i, x.set(s, i, 100 * s + i + 1), 1);
            }
        }
        for (int s = 0; s < 8; s++) {
            check.due("first of " + s, x.element(s, 0), 100 * s + 1);
            check.due("last of " + s, x.element(s, 39), 100 * s + 40);
            check.due("second of " + s, x.element(s, 1), 0);
        }
        for (int s = 0; s < 7; s++) {
            check.due("show in " + s, x.show(s, s), 1);
            check.due("holds " + s, x.holds(s), 10 + s);
            check.due("no element then", x.element(s, 0), 0);
        }
        check.due("the eighth is as it was", x.element(7, 39), 740);
        check.due("all hold something", x.status(8), 8);
        check.due("nothing in the first", x.show(0, -1), 1);
        check.due("nothing in the last", x.show(7, -1), 1);
        check.due("nothing in the last again", x.show(7, -1), 1);
        check.due("six hold something", x.status(8), 6);
    }

    private static void elementsAreNoughtAtFirst() {
        OnlyUnseen x = new OnlyUnseen();
        for (int sort = 0; sort < 5; sort++) {
            x.row(0, sort, 40);
            for (int i = 0; i < 40; i++) {
                check.due("at first " + sort + " " + i, x.element(0, i), 0);
                x.set(0, i, -1);
            }
        }
        x.row(0, LONGS, 2);
        check.due("fewer", x.element(0, 0) + x.element(0, 1) + x.element(0, 2), 0);
        x.set(0, 1, 5);
        x.row(0, LONGS, 40);
        check.due("more again", x.element(0, 1) + x.element(0, 2) + x.element(0, 39), 0);
        x.set(0, 0, 5);
        x.person(0, 0);
        x.show(0, 0);
        x.row(0, LONGS, 1);
        check.due("behind somebody", x.element(0, 0), 0);
        x.set(0, 0, 5);
        x.show(0, -1);
        check.due("of nothing", x.element(0, 0), 0);
        x.row(0, LONGS, 1);
        check.due("behind nothing", x.element(0, 0), 0);
    }

    private static void kept(int sort, long v, long told) {
        OnlyUnseen x = new OnlyUnseen();
        x.row(0, sort, 3);
        check.due("set " + sort + " " + v, x.set(0, 1, v), 1);
        check.due("element " + sort + " " + v, x.element(0, 1), told);
        check.due("ahead of " + sort + " " + v, x.element(0, 0), 0);
        check.due("behind " + sort + " " + v, x.element(0, 2), 0);
    }

    private static void bytesKeepTheirLowestBits() {
        kept(BYTES, 127, 127);
        kept(BYTES, 128, -128);
        kept(BYTES, 255, -1);
        kept(BYTES, 256, 0);
        kept(BYTES, -128, -128);
        kept(BYTES, -129, 127);
        kept(BYTES, Long.MIN_VALUE, 0);
        kept(BYTES, Long.MAX_VALUE, -1);
    }

    private static void shortsKeepTheirLowestBits() {
        kept(SHORTS, 32767, 32767);
        kept(SHORTS, 32768, -32768);
        kept(SHORTS, 65535, -1);
        kept(SHORTS, 65536, 0);
        kept(SHORTS, -32768, -32768);
        kept(SHORTS, -32769, 32767);
        kept(SHORTS, Long.MIN_VALUE, 0);
        kept(SHORTS, Long.MAX_VALUE, -1);
    }

    private static void intsKeepTheirLowestBits() {
        kept(INTS, Integer.MAX_VALUE, Integer.MAX_VALUE);
        kept(INTS, 1L << 31, Integer.MIN_VALUE);
        kept(INTS, (1L << 32) - 1, -1);
        kept(INTS, 1L << 32, 0);
        kept(INTS, Integer.MIN_VALUE, Integer.MIN_VALUE);
        kept(INTS, Integer.MIN_VALUE - 1L, Integer.MAX_VALUE);
        kept(INTS, Long.MIN_VALUE, 0);
        kept(INTS, Long.MAX_VALUE, -1);
    }

    private static void longsKeepAll() {
        for (long v : new long[] {0, -1, 1L << 32, Long.MIN_VALUE, Long.MAX_VALUE}) {
            kept(LONGS, v, v);
        }
    }

    private static void booleansAreWhetherItIsNotNought() {
        kept(BOOLEANS, 0, 0);
        for (long v : new long[] {1, 2, -1, 256, 1L << 32, Long.MIN_VALUE, Long.MAX_VALUE}) {
            kept(BOOLEANS, v, 1);
        }
    }

    private static OnlyUnseen oneToForty() {
        OnlyUnseen x = new OnlyUnseen();
        x.row(0, INTS, 40);
        x.row(1, INTS, 40);
        for (int i = 0; i < 40; i++) {
            x.set(0, i, i + 1);
        }
        return x;
    }

    private static void promise4CopyAsTheyWere() {
        OnlyUnseen x = oneToForty();
        check.due("copy all", x.copy(0, 1, 0, 0, 40), 40);
        for (int i = 0; i < 40; i++) {
            check.due("copied " + i, x.element(1, i), i + 1);
        }
        check.due("copy none", x.copy(0, 1, 40, 40, 0), 0);
        check.due("copy the last to the first", x.copy(0, 1, 39, 0, 1), 1);
        check.due("the first", x.element(1, 0), 40);
        check.due("the second is as it was", x.element(1, 1), 2);
        check.due("copy the first to the last", x.copy(0, 1, 0, 39, 1), 1);
        check.due("the last", x.element(1, 39), 1);
        check.due("the last but one is as it was", x.element(1, 38), 39);
        check.due("copy all to itself", x.copy(0, 0, 0, 0, 40), 40);
        check.due("forth over itself", x.copy(0, 0, 0, 1, 39), 39);
        for (int i = 0; i < 40; i++) {
            check.due("forth " + i, x.element(0, i), Math.max(i, 1));
        }
        check.due("back over itself", x.copy(0, 0, 1, 0, 39), 39);
        for (int i = 0; i < 40; i++) {
            check.due("back " + i, x.element(0, i), Math.min(i + 1, 39));
        }
    }

    private static void promise4CopyOfEachSort() {
        for (int sort = 0; sort < 5; sort++) {
            OnlyUnseen x = new OnlyUnseen();
            x.row(0, sort, 1);
            x.row(7, sort, 2);
            x.set(0, 0, -1);
            check.due("copy of sort " + sort, x.copy(0, 7, 0, 1, 1), 1);
            check.due("copied of sort " + sort, x.element(7, 1), x.element(0, 0));
            check.due("not copied of sort " + sort, x.element(7, 0), 0);
            for (int other = 0; other < 5; other++) {
                x.row(7, other, 2);
                check.due("copy " + sort + " to " + other, x.copy(0, 7, 0, 0, 1), sort == other ? 1 : -3);
            }
        }
        OnlyUnseen y = new OnlyUnseen();
        y.row(0, BYTES, 0);
        y.row(1, BYTES, 0);
        check.due("copy none of none", y.copy(0, 1, 0, 0, 0), 0);
        check.due("copy one of none", y.copy(0, 1, 0, 0, 1), -2);
    }

    private static void promise7ShowEachOfSeven() {
        OnlyUnseen x = new OnlyUnseen();
        for (int p = 0; p < 7; p++) {
            check.due("show ahead " + p, x.show(7, p), -2);
            x.person(0, 0);
            check.due("show " + p, x.show(7, p), 1);
            check.due("holds " + p, x.holds(7), 10 + p);
        }
        check.due("show an eighth", x.show(7, 7), -2);
        check.due("as it was", x.holds(7), 16);
    }

    private static void promise8SaysNoneOrAll() {
        for (int kind = 0; kind < 6; kind++) {
            OnlyUnseen x = new OnlyUnseen();
            x.sights(8);
            x.person(kind, 0);
            x.show(0, 0);
            // of nothing that was seen or heard: bits or counts of none, NONE for a first one
            check.due("says nothing as PERSON", x.says(0, 0), kind == 2 || kind == 3 ? 255 : 0);
            int[] none = {0, 0, 8, -1, 0, -1};
            check.due("says nothing as " + kind, kind == 0 ? 0 : x.says(0, kind), none[kind]);
            check.due("NONE isn't refused", x.status(12) + x.status(13) + x.status(14), 0);
        }
    }

    private static void promise8SaysAtMost() {
        OnlyUnseen x = new OnlyUnseen();
        x.sights(8);
        int[] kinds = {1, 3, 4, 5, 0, 0, 0};
        for (int kind : kinds) {
            x.person(kind, 0);
        }
        for (int p = 1; p < 7; p++) {
            x.near(0, p, true);
        }
        for (int sight = 7; sight >= 0; sight--) {
            x.see(1, sight, 1);
            x.hear(2, sight, true);
            x.see(3, sight, 2);
            x.show(0, 3);
            check.due("the first SEEN", x.says(0, 5), sight);
            x.ask(0, 1);
            x.show(0, 1);
            check.due("the first BARRED", x.says(0, 3), sight);
            check.due("how many aren't BARRED", x.says(0, 2), sight);
            x.ask(0, 0);
            check.due("none is BARRED by day", x.says(0, 3), -1);
            check.due("all aren't BARRED by day", x.says(0, 2), 8);
            x.show(0, 2);
            check.due("how many they have HEARD of", x.says(0, 4), 8 - sight);
        }
        x.show(0, 0);
        check.due("how many they HEAR", x.says(0, 1), 6);
        x.see(3, 0, 1);
        x.show(0, 3);
        check.due("HALF seen is not SEEN", x.says(0, 5), 1);
    }

    public static void main(String[] args) {
        promise1ANewObject();
        eightShelvesEachOfItsOwn();
        elementsAreNoughtAtFirst();
        bytesKeepTheirLowestBits();
        shortsKeepTheirLowestBits();
        intsKeepTheirLowestBits();
        longsKeepAll();
        booleansAreWhetherItIsNotNought();
        promise4CopyAsTheyWere();
        promise4CopyOfEachSort();
        promise7ShowEachOfSeven();
        promise8SaysNoneOrAll();
        promise8SaysAtMost();
        check.end("ShelfEdgesTest");
    }
}
