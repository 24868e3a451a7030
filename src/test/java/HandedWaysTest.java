import java.util.ArrayList;
import java.util.Arrays;
import java.util.List;
import java.util.Random;

/**
 * The document says that a way is a row of meetings by which a letter can be handed on. So here the ways are those
 * that can() and hand() let a letter go, step by step, and the calls about ways and tales are held against them.
 */
public final class HandedWaysTest {
    /** A letter that has been handed on: by which meetings, who has it since when, what stands on it. */
    private static final class Handed {
        final int[] row;
        int holder;
        int since;
        int readers;
        int between;
        int price;
        int[] lines;

        Handed(int[] row) {
            this.row = row;
        }
    }

    private final Checks checks = new Checks("HandedWaysTest");
    private final Random random = new Random(77);
    private Model model;
    private String ruleText;
    private String where;

    public static void main(String[] args) {
        HandedWaysTest test = new HandedWaysTest();
        for (int run = 0; run < 250; run++) {
            test.run(run);
        }
        test.checks.finish();
    }

    private void run(int run) {
        makeRoads();
        ruleText = Model.RULES[random.nextInt(Model.RULES.length)];
        int hour = random.nextInt(4);
        int first = random.nextInt(10);
        where = run + ": " + model.text() + " " + model.meetingText(0, model.meetings.length) + " rule " + ruleText
            + " at " + hour;
        for (int from = 0; from < model.people; from++) {
            List<Handed> all = new ArrayList<>();
            handOn(all, new int[0], from, hour, first);
            for (int to = 0; to < model.people; to++) {
                List<Handed> some = comeTo(all, to);
                askWays(from, to, hour, some);
                askTales(from, to, hour, some);
            }
        }
    }

    private void makeRoads() {
        int people = 2 + random.nextInt(4);
        int[] reading = new int[people];
        for (int p = 0; p < people; p++) {
            reading[p] = 1 + random.nextInt(random.nextInt(4) == 0 ? 9 : 2);
        }
        int[][] meetings = new int[random.nextInt(9)][];
        for (int m = 0; m < meetings.length; m++) {
            int one = random.nextInt(people);
            int other = (one + 1 + random.nextInt(people - 1)) % people;
            meetings[m] = new int[] {one, other, random.nextInt(14), random.nextInt(10)};
        }
        model = new Model(reading, meetings);
    }

    private EachAddsALine build() {
        EachAddsALine x = new EachAddsALine();
        Checks.roads(x, model.text());
        Checks.roads(x, model.meetingText(0, model.meetings.length));
        Checks.rule(x, ruleText);
        return x;
    }

    /** Hands a new letter on by a row, tells what it is then, and goes on by each meeting that is open. */
    private void handOn(List<Handed> all, int[] row, int from, int hour, int first) {
        EachAddsALine x = build();
        x.write(1, from, hour, first);
        int[] lines = new int[row.length + 1];
        lines[0] = first;
        int giver = from;
        Handed handed = new Handed(row);
        for (int k = 0; k < row.length; k++) {
            handed.between |= k == 0 ? 0 : 1 << giver;
            handed.price += Checks.meetingAt(x, row[k], 3);
            lines[k + 1] = x.hand(1, row[k]);
            giver = x.of(1, 2);
        }
        handed.holder = giver;
        handed.since = x.of(1, 3);
        handed.readers = x.of(1, 4);
        handed.lines = lines;
        checks.due(where + " lines", x.lines(1), lines.length);
        checks.dueRow(where + " lines", x, lines);
        checks.due(where + " check", x.check(1), -2);
        if (row.length > 0) {
            all.add(handed);
        }
        int open = x.can(1);
        for (int m = 0; m < model.meetings.length; m++) {
            boolean isOpen = (open >> m & 1) == 1;
            checks.due(where + " hand where can() tells", x.hand(1, m) >= 0, isOpen);
            if (isOpen) {
                checks.due(where + " undo", x.undo(1), row.length);
                int[] longer = Arrays.copyOf(row, row.length + 1);
                longer[row.length] = m;
                handOn(all, longer, from, hour, first);
            }
        }
    }

    private static List<Handed> comeTo(List<Handed> all, int to) {
        List<Handed> some = new ArrayList<>();
        for (Handed handed : all) {
            if (handed.holder == to) {
                some.add(handed);
            }
        }
        return some;
    }

    private interface Weight {
        int of(Handed handed);
    }

    /** Of those that weigh least the one with the least row. */
    private static Handed least(List<Handed> some, Weight weight) {
        Handed best = null;
        for (Handed handed : some) {
            int more = best == null ? -1 : weight.of(handed) - weight.of(best);
            if (more < 0 || more == 0 && Model.compare(handed.row, best.row) < 0) {
                best = handed;
            }
        }
        return best;
    }

    private void dueWay(String call, EachAddsALine x, int got, Handed best, int want) {
        checks.due(where + " " + call, got, best == null ? -2 : want);
        if (best != null) {
            checks.dueRow(where + " " + call, x, best.row);
        }
    }

    private void askWays(int from, int to, int hour, List<Handed> some) {
        EachAddsALine x = build();
        String who = "(" + from + ", " + to + ")";
        checks.due(where + " ways" + who, x.ways(from, to, hour), some.size());
        Handed best = least(some, h -> 100 * h.since + h.row.length);
        dueWay("soonest" + who, x, x.soonest(from, to, hour), best, best == null ? 0 : best.since);
        best = least(some, h -> h.row.length);
        dueWay("hands" + who, x, x.hands(from, to, hour), best, best == null ? 0 : best.row.length);
        best = least(some, h -> -h.row.length);
        dueWay("longest" + who, x, x.longest(from, to, hour), best, best == null ? 0 : best.row.length);
        best = least(some, h -> 100 * h.price + h.row.length);
        dueWay("cheapest" + who, x, x.cheapest(from, to, hour), best, best == null ? 0 : best.price);
        int needs = some.isEmpty() ? 0 : -1;
        int busy = 1 << from | 1 << to;
        for (Handed handed : some) {
            int bits = 0;
            for (int m : handed.row) {
                bits |= 1 << m;
            }
            needs &= bits;
            busy |= handed.between;
        }
        checks.due(where + " needs" + who, x.needs(from, to, hour), needs);
        checks.due(where + " idle" + who, x.idle(from, to, hour), (1 << model.people) - 1 & ~busy);
    }

    /** The lines of some of these ways, told as a tale or copied from the letter, fit these very ways. */
    private void askTales(int from, int to, int hour, List<Handed> some) {
        for (int k = 0; k < some.size(); k += 1 + random.nextInt(5)) {
            EachAddsALine x = build();
            tellLines(x, some.get(k), from, hour);
            List<Handed> alike = new ArrayList<>();
            int each = -1;
            int any = 0;
            for (Handed handed : some) {
                if (Arrays.equals(handed.lines, some.get(k).lines)) {
                    alike.add(handed);
                    each &= handed.readers;
                    any |= handed.readers;
                }
            }
            Handed best = least(alike, h -> 0);
            checks.due(where + " fits", x.fits(from, to, hour), alike.size());
            checks.dueRow(where + " fits", x, best.row);
            checks.due(where + " lies", x.lies(from, to, hour), 0);
            checks.dueRow(where + " lies", x, best.row);
            checks.due(where + " sure", x.sure(from, to, hour), each);
            checks.dueRow(where + " sure", x, any);
            checks.due(where + " writers", x.writers(to, hour) >> from & 1, 1);
            checks.due(where + " when", x.when(from, to) > hour, true);
        }
    }

    private void tellLines(EachAddsALine x, Handed handed, int from, int hour) {
        if (random.nextBoolean()) {
            x.write(2, from, hour, handed.lines[0]);
            for (int m : handed.row) {
                x.hand(2, m);
            }
            checks.due(where + " copy", x.copy(2), handed.lines.length);
            return;
        }
        StringBuilder s = new StringBuilder();
        for (int line : handed.lines) {
            s.append(line);
        }
        checks.due(where + " tale", Checks.tale(x, s.toString()), handed.lines.length);
    }
}
