import java.util.ArrayList;
import java.util.Arrays;
import java.util.List;
import java.util.Random;

/**
 * Random calls on letters, held against letters kept as plain lists of what was added. An object is left ahead of
 * its 512th call, as nothing is promised behind it.
 */
public final class LettersModelTest {
    private static final int[] NOTHING = {};

    private final Checks checks = new Checks("LettersModelTest");
    private final Random random = new Random(23);
    private Model model;
    private EachAddsALine x;

    /** Letters 0 .. 2: of each line who added it, when, and what; none: not written. */
    private List<List<int[]>> letters;
    private final List<List<List<int[]>>> kept = new ArrayList<>(Arrays.asList(null, null));
    private int[] row;
    private int calls;
    private String where;

    public static void main(String[] args) {
        LettersModelTest test = new LettersModelTest();
        for (int run = 0; run < 10000; run++) {
            test.run(run);
        }
        test.checks.finish();
    }

    private void run(int run) {
        int people = run % 4 == 0 ? 9 : 2 + random.nextInt(4);
        int count = run % 3 == 0 ? 20 : random.nextInt(20);
        int[] reading = new int[people];
        for (int p = 0; p < people; p++) {
            reading[p] = 1 + random.nextInt(3);
        }
        int[][] meetings = new int[count][];
        for (int m = 0; m < count; m++) {
            int one = random.nextInt(people);
            int other = (one + 1 + random.nextInt(people - 1)) % people;
            meetings[m] = new int[] {one, other, random.nextInt(run % 2 == 0 ? 20 : 100), 0};
        }
        model = new Model(reading, meetings);
        x = new EachAddsALine();
        Checks.roads(x, model.text());
        for (int m = 0; m < count; m += 9) {
            Checks.roads(x, model.meetingText(m, Math.min(count, m + 9)));
        }
        letters = new ArrayList<>();
        for (int letter = 0; letter < 3; letter++) {
            letters.add(new ArrayList<>());
        }
        kept.set(0, null);
        kept.set(1, null);
        row = NOTHING;
        where = "run " + run + " " + model.text() + ";" + model.meetingText(0, count);
        calls = 80;
        while (calls < 260) {
            step();
        }
    }

    private void due(String call, long got, long want) {
        where = where.length() > 3000 ? where.substring(0, 3000) : where + " " + call;
        checks.due(where, got, want);
        calls++;
        if (random.nextInt(3) == 0) {
            checks.dueRow(where, x, row);
            calls += 3 + row.length;
        }
    }

    private void step() {
        int letter = random.nextInt(3);
        int hours = random.nextInt(3) == 0 ? 100 : 8;
        switch (random.nextInt(16)) {
            case 0: write(letter, random.nextInt(model.people), random.nextInt(hours), random.nextInt(10)); break;
            case 1: undo(letter); break;
            case 2: goes(letter, random.nextInt(random.nextBoolean() ? 3 : 21)); break;
            case 3: lines(letter); break;
            case 4: see(letter); break;
            case 5: due("can(" + letter + ")", x.can(letter), can(letters.get(letter))); break;
            case 6: due("check(" + letter + ")", x.check(letter), check(letters.get(letter))); break;
            case 7: copy(letter); break;
            case 8: keep(random.nextInt(2)); break;
            case 9: again(random.nextInt(2)); break;
            case 10: move(random.nextInt(100)); break;
            case 11: rule(random.nextInt(Model.RULES.length)); break;
            default: hand(letter, random.nextInt(20)); break;
        }
    }

    private void write(int letter, int person, int hour, int line) {
        letters.set(letter, new ArrayList<>(List.of(new int[] {person, hour, line})));
        due("write(" + letter + ")", x.write(letter, person, hour, line) ? 1 : 0, 1);
    }

    private int ready(List<int[]> lines) {
        int[] last = lines.get(lines.size() - 1);
        return last[1] + (lines.size() == 1 ? 0 : model.reading[last[0]]);
    }

    private int handed(List<int[]> lines, int m) {
        if (lines.isEmpty() || m >= model.meetings.length) {
            return -1;
        }
        int[] t = model.meetings[m];
        int holder = lines.get(lines.size() - 1)[0];
        if (t[0] != holder && t[1] != holder) {
            return -2;
        }
        if (t[2] < ready(lines)) {
            return -3;
        }
        if (lines.size() == 30) {
            return -4;
        }
        int getter = t[0] == holder ? t[1] : t[0];
        return model.lineFor(getter, holder, t[2], texts(lines, lines.size()));
    }

    private static List<Integer> texts(List<int[]> lines, int n) {
        List<Integer> v = new ArrayList<>();
        for (int k = 0; k < n; k++) {
            v.add(lines.get(k)[2]);
        }
        return v;
    }

    private void add(List<int[]> lines, int m, int line) {
        int[] t = model.meetings[m];
        int holder = lines.get(lines.size() - 1)[0];
        lines.add(new int[] {t[0] == holder ? t[1] : t[0], t[2], line});
    }

    private void hand(int letter, int m) {
        List<int[]> lines = letters.get(letter);
        int line = handed(lines, m);
        if (line >= 0) {
            add(lines, m, line);
        }
        due("hand(" + letter + ", " + m + ")", x.hand(letter, m), line);
    }

    private int can(List<int[]> lines) {
        if (lines.isEmpty()) {
            return -1;
        }
        int bits = 0;
        for (int m = 0; m < model.meetings.length; m++) {
            bits |= handed(lines, m) >= 0 ? 1 << m : 0;
        }
        return bits;
    }

    private int readers(List<int[]> lines) {
        int bits = 0;
        for (int[] line : lines) {
            bits |= 1 << line[0];
        }
        return bits;
    }

    private int nextMeeting(List<int[]> lines) {
        int best = -1;
        int holder = lines.get(lines.size() - 1)[0];
        for (int m = 0; m < model.meetings.length; m++) {
            int[] t = model.meetings[m];
            int getter = t[0] == holder ? t[1] : t[0];
            boolean isNew = handed(lines, m) >= 0 && (readers(lines) >> getter & 1) == 0;
            if (isNew && (best < 0 || t[2] < model.meetings[best][2])) {
                best = m;
            }
        }
        return best;
    }

    private void goes(int letter, int n) {
        List<int[]> lines = letters.get(letter);
        int times = lines.isEmpty() ? -1 : 0;
        for (int m = 0; times >= 0 && times < n && m >= 0;) {
            m = nextMeeting(lines);
            if (m >= 0) {
                add(lines, m, handed(lines, m));
                times++;
            }
        }
        int got = x.goes(letter, n);
        if (times >= 0) {
            int[] last = lines.get(lines.size() - 1);
            row = new int[] {last[0], last[1]};
        }
        due("goes(" + letter + ", " + n + ")", got, times);
    }

    private void undo(int letter) {
        List<int[]> lines = letters.get(letter);
        int left = lines.size() < 2 ? -1 : lines.size() - 2;
        if (left >= 0) {
            lines.remove(lines.size() - 1);
        }
        due("undo(" + letter + ")", x.undo(letter), left);
    }

    private void lines(int letter) {
        List<int[]> lines = letters.get(letter);
        int got = x.lines(letter);
        if (!lines.isEmpty()) {
            row = new int[Math.min(12, lines.size())];
            for (int k = 0; k < row.length; k++) {
                row[k] = lines.get(k)[2];
            }
        }
        due("lines(" + letter + ")", got, lines.isEmpty() ? -1 : lines.size());
    }

    private void see(int letter) {
        List<int[]> lines = letters.get(letter);
        int[] want = {-1, -1, -1, -1, -1};
        if (!lines.isEmpty()) {
            int[] last = lines.get(lines.size() - 1);
            want = new int[] {lines.get(0)[0], lines.get(0)[1], last[0], last[1], readers(lines)};
        }
        for (int what = 0; what < 5; what++) {
            due("of(" + letter + ", " + what + ")", x.of(letter, what), want[what]);
        }
        int there = 0;
        for (int k = 0; k < 3; k++) {
            there |= letters.get(k).isEmpty() ? 0 : 1 << k;
        }
        due("count(2)", x.count(2), there);
        for (int p = 0; p < model.people; p++) {
            int bits = 0;
            for (int k = 0; k < 3; k++) {
                bits |= (readers(letters.get(k)) >> p & 1) << k;
            }
            due("read(" + p + ")", x.read(p), bits);
        }
    }

    private int check(List<int[]> lines) {
        for (int k = 1; k < lines.size(); k++) {
            int[] line = lines.get(k);
            if (model.lineFor(line[0], lines.get(k - 1)[0], line[1], texts(lines, k)) != line[2]) {
                return k;
            }
        }
        return lines.isEmpty() ? -1 : -2;
    }

    /** What the tale is can be seen from the number of its lines, and from the ways that fit. */
    private void copy(int letter) {
        List<int[]> lines = letters.get(letter);
        int told = x.count(3);
        int want = lines.isEmpty() ? -1 : Math.min(12, lines.size());
        due("copy(" + letter + ")", x.copy(letter), want);
        due("count(3)", x.count(3), want < 0 ? told : want);
        if (want > 0 && lines.size() <= 12 && check(lines) == -2 && lines.get(lines.size() - 1)[1] <= 99) {
            boolean isMoved = false;
            for (int k = 1; k < lines.size(); k++) {
                isMoved |= !meet(lines.get(k - 1), lines.get(k), k == 1);
            }
            long fits = x.fits(lines.get(0)[0], lines.get(lines.size() - 1)[0], lines.get(0)[1]);
            checks.due(where + " fits", isMoved || fits > 0, true);
            row = new int[x.count(5)];
            for (int k = 0; k < row.length; k++) {
                row[k] = Checks.rowAt(x, k);
            }
            calls += 2 + row.length;
        }
    }

    private boolean meet(int[] giver, int[] getter, boolean isFirst) {
        for (int[] t : model.meetings) {
            boolean isThere = t[0] == giver[0] && t[1] == getter[0] || t[1] == giver[0] && t[0] == getter[0];
            if (isThere && t[2] == getter[1] && t[2] >= giver[1] + (isFirst ? 0 : model.reading[giver[0]])) {
                return true;
            }
        }
        return false;
    }

    private List<List<int[]>> copyOf(List<List<int[]>> all) {
        List<List<int[]>> v = new ArrayList<>();
        for (List<int[]> lines : all) {
            v.add(new ArrayList<>(lines));
        }
        return v;
    }

    private void keep(int i) {
        kept.set(i, copyOf(letters));
        due("keep(" + i + ")", x.keep(i) ? 1 : 0, 1);
    }

    private void again(int i) {
        boolean isKept = kept.get(i) != null;
        if (isKept) {
            letters = copyOf(kept.get(i));
        }
        due("again(" + i + ")", x.again(i) ? 1 : 0, isKept ? 1 : 0);
    }

    private void move(int v) {
        int m = random.nextInt(20);
        if (m >= model.meetings.length) {
            due("move(" + m + ")", x.move(m, 0, v), -1);
            return;
        }
        int old = model.meetings[m][2];
        model.meetings[m][2] = v;
        due("move(" + m + ", 0, " + v + ")", x.move(m, 0, v), old);
    }

    private void rule(int which) {
        model.rule = Model.SAME[which];
        due("rule " + Model.RULES[which], Checks.rule(x, Model.RULES[which]), 0);
    }
}
