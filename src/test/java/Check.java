/** Counts and tells the answers that are not as they are due. */
final class Check {
    private int wrong = 0;
    private int asked = 0;

    void due(String call, long got, long want) {
        asked++;
        if (got != want) {
            wrong++;
            System.out.println(call + " answered " + got + ", due is " + want);
        }
    }

    void fail(String what) {
        wrong++;
        System.out.println(what);
    }

    void end(String name) {
        System.out.println(name + ": " + asked + " answers, " + wrong + " not as due");
        if (wrong != 0) {
            System.exit(1);
        }
    }

    /** What town() answers to a text. */
    static int read(OnlyUnseen x, String text) {
        for (int i = 0; i < text.length(); i++) {
            x.feed(text.charAt(i));
        }
        return x.town();
    }

    static OnlyUnseen town(String text) {
        OnlyUnseen x = new OnlyUnseen();
        if (read(x, text) < 0) {
            throw new IllegalStateException("no town: " + text);
        }
        return x;
    }

    /** So many SIGHTS, and PEOPLE of these KINDS. */
    static OnlyUnseen of(int sights, int... kinds) {
        OnlyUnseen x = new OnlyUnseen();
        x.sights(sights);
        for (int kind : kinds) {
            x.person(kind, 0);
        }
        return x;
    }

    /** A row of ints in shelf 0. */
    static OnlyUnseen withRow(OnlyUnseen x, int... elements) {
        x.row(0, 2, elements.length);
        for (int i = 0; i < elements.length; i++) {
            x.set(0, i, elements[i]);
        }
        return x;
    }
}
