import java.util.NoSuchElementException;

/** What the tests share: texts put into an object, answers held against what is due. */
final class Checks {
    private final String name;
    private int asked;
    private int wrong;

    Checks(String name) {
        this.name = name;
    }

    void due(String call, long got, long want) {
        asked++;
        if (got != want) {
            wrong++;
            if (wrong <= 50) {
                System.out.println(name + ": " + call + " answered " + got + ", due is " + want);
            }
        }
    }

    void due(String call, boolean got, boolean want) {
        due(call, got ? 1 : 0, want ? 1 : 0);
    }

    /** The whole row, with the throw behind its last number. */
    void dueRow(String call, EachAddsALine x, int... want) {
        due(call + " row's size", x.count(5), want.length);
        for (int i = 0; i < want.length; i++) {
            due(call + " row(" + i + ")", rowAt(x, i), want[i]);
        }
        due(call + " row(end)", rowAt(x, want.length), Integer.MIN_VALUE);
        due(call + " row(-1)", rowAt(x, -1), Integer.MIN_VALUE);
    }

    /** Integer.MIN_VALUE stands for a NoSuchElementException. */
    static int rowAt(EachAddsALine x, int i) {
        try {
            return x.row(i);
        } catch (NoSuchElementException e) {
            return Integer.MIN_VALUE;
        }
    }

    static int meetingAt(EachAddsALine x, int m, int what) {
        try {
            return x.meeting(m, what);
        } catch (NoSuchElementException e) {
            return Integer.MIN_VALUE;
        }
    }

    /** Puts a text of at most 80 signs into an object that has none. */
    static void put(EachAddsALine x, String signs) {
        x.end(0);
        for (int p = 0; p < signs.length(); p += 4) {
            int v = 0;
            for (int k = p; k < p + 4; k++) {
                v = v << 8 | (k < signs.length() ? signs.charAt(k) & 255 : 0);
            }
            x.sign(v);
        }
        x.end(signs.length());
    }

    static int roads(EachAddsALine x, String signs) {
        put(x, signs);
        return x.roads();
    }

    static int rule(EachAddsALine x, String signs) {
        put(x, signs);
        return x.rule();
    }

    static int tale(EachAddsALine x, String signs) {
        put(x, signs);
        return x.tale();
    }

    static int way(EachAddsALine x, String signs, int from, int hour) {
        put(x, signs);
        return x.way(from, hour);
    }

    void finish() {
        System.out.println(name + ": " + asked + " answers, " + wrong + " wrong");
        if (wrong != 0 || asked == 0) {
            System.exit(1);
        }
    }
}
