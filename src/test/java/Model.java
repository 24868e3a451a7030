import java.util.ArrayList;
import java.util.List;

/** The document's terms in their plainest form: every way is told out, one by one. */
final class Model {
    /** A rule as a function of i, g, h, n, f, l, s. */
    interface Rule {
        int of(int i, int g, int h, int n, int f, int l, int s);
    }

    /** Rules as texts, and the same as functions. */
    static final String[] RULES = {"", "i", "g", "h+g*2-f+l*s/n", "(i<g)+l", "s", "h/3", "-h*i", "0", "n-f*l", "l+(i>1)"};
    static final Rule[] SAME = {
        (i, g, h, n, f, l, s) -> n,
        (i, g, h, n, f, l, s) -> i,
        (i, g, h, n, f, l, s) -> g,
        (i, g, h, n, f, l, s) -> h + g * 2 - f + l * s / n,
        (i, g, h, n, f, l, s) -> (i < g ? 1 : 0) + l,
        (i, g, h, n, f, l, s) -> s,
        (i, g, h, n, f, l, s) -> h / 3,
        (i, g, h, n, f, l, s) -> -h * i,
        (i, g, h, n, f, l, s) -> 0,
        (i, g, h, n, f, l, s) -> n - f * l,
        (i, g, h, n, f, l, s) -> l + (i > 1 ? 1 : 0)};

    final int people;
    final int[] reading;
    /** Of each meeting: one, the other, hour, price. */
    final int[][] meetings;
    Rule rule = (i, g, h, n, f, l, s) -> n;

    Model(int[] reading, int[][] meetings) {
        this.people = reading.length;
        this.reading = reading;
        this.meetings = meetings;
    }

    String text() {
        StringBuilder s = new StringBuilder();
        for (int r : reading) {
            s.append(s.length() == 0 ? "" : ";").append(r);
        }
        return s.toString();
    }

    String meetingText(int from, int behind) {
        StringBuilder s = new StringBuilder();
        for (int m = from; m < behind; m++) {
            int[] t = meetings[m];
            s.append(s.length() == 0 ? "" : ";").append((char) ('a' + t[0])).append((char) ('a' + t[1]));
            s.append('@').append(t[2]);
            if (t[3] != 0) {
                s.append('*').append(t[3]);
            }
        }
        return s.toString();
    }

    /** All ways of at least one meeting, rows of numbers, from one written at an hour, to anybody. */
    List<int[]> allWays(int from, int hour) {
        List<int[]> found = new ArrayList<>();
        extend(found, new int[0], from, hour);
        return found;
    }

    private void extend(List<int[]> found, int[] row, int holder, int ready) {
        for (int m = 0; m < meetings.length; m++) {
            int[] t = meetings[m];
            if (t[2] < ready || t[0] != holder && t[1] != holder) {
                continue;
            }
            int[] longer = java.util.Arrays.copyOf(row, row.length + 1);
            longer[row.length] = m;
            found.add(longer);
            int getter = t[0] == holder ? t[1] : t[0];
            extend(found, longer, getter, t[2] + reading[getter]);
        }
    }

    /** Who gets it, one behind the other. */
    int[] getters(int from, int[] row) {
        int[] v = new int[row.length];
        int holder = from;
        for (int k = 0; k < row.length; k++) {
            int[] t = meetings[row[k]];
            holder = t[0] == holder ? t[1] : t[0];
            v[k] = holder;
        }
        return v;
    }

    int endOf(int from, int[] row) {
        return row.length == 0 ? from : getters(from, row)[row.length - 1];
    }

    int hourOf(int[] row) {
        return meetings[row[row.length - 1]][2];
    }

    int priceOf(int[] row) {
        int sum = 0;
        for (int m : row) {
            sum += meetings[m][3];
        }
        return sum;
    }

    List<int[]> waysTo(List<int[]> all, int from, int to) {
        List<int[]> some = new ArrayList<>();
        for (int[] row : all) {
            if (endOf(from, row) == to) {
                some.add(row);
            }
        }
        return some;
    }

    /** The lines, the first as written; who stands at place 'out' (or -1) adds none. */
    int[] linesOf(int from, int[] row, int firstLine, int out) {
        int[] who = getters(from, row);
        List<Integer> lines = new ArrayList<>();
        lines.add(firstLine);
        for (int k = 0; k < row.length; k++) {
            if (k == out) {
                continue;
            }
            int giver = k == 0 ? from : who[k - 1];
            lines.add(lineFor(who[k], giver, meetings[row[k]][2], lines));
        }
        int[] v = new int[lines.size()];
        for (int k = 0; k < v.length; k++) {
            v[k] = lines.get(k);
        }
        return v;
    }

    int lineFor(int i, int g, int h, List<Integer> ahead) {
        int sum = 0;
        for (int line : ahead) {
            sum += line;
        }
        int v = rule.of(i, g, h, ahead.size(), ahead.get(0), ahead.get(ahead.size() - 1), sum);
        int rest = v % 10;
        return rest < 0 ? rest + 10 : rest;
    }

    static int compare(int[] a, int[] b) {
        for (int k = 0; k < Math.min(a.length, b.length); k++) {
            if (a[k] != b[k]) {
                return Integer.compare(a[k], b[k]);
            }
        }
        return Integer.compare(a.length, b.length);
    }
}
