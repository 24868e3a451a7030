import java.util.ArrayList;
import java.util.Arrays;
import java.util.List;
import java.util.Random;

/**
 * Random roads: every answer about ways, tales and gossip held against all ways told out one by one. Objects are
 * built anew often, as nothing is promised behind 512 calls.
 */
public final class BruteForceTest {
    private final Checks checks = new Checks("BruteForceTest");
    private final Random random = new Random(11);
    private Model model;
    private EachAddsALine x;
    private String where;

    public static void main(String[] args) {
        BruteForceTest test = new BruteForceTest();
        for (int run = 0; run < 1500; run++) {
            test.run(run);
        }
        test.checks.finish();
    }

    private void run(int run) {
        int people = 2 + random.nextInt(run % 5 == 0 ? 8 : 4);
        int count = random.nextInt(run % 7 == 0 ? 21 : 13);
        int range = run % 3 == 0 ? 12 : run % 3 == 1 ? 40 : 100;
        int[] reading = new int[people];
        for (int p = 0; p < people; p++) {
            reading[p] = 1 + random.nextInt(random.nextInt(3) == 0 ? 9 : 2);
        }
        int[][] meetings = new int[count][];
        for (int m = 0; m < count; m++) {
            int one = random.nextInt(people);
            int other = (one + 1 + random.nextInt(people - 1)) % people;
            meetings[m] = new int[] {one, other, random.nextInt(range), random.nextInt(3) == 0 ? 0 : random.nextInt(10)};
        }
        model = new Model(reading, meetings);
        List<List<int[]>> all = new ArrayList<>();
        int hour = random.nextInt(3) == 0 ? 0 : random.nextInt(range);
        for (int from = 0; from < people; from++) {
            all.add(model.allWays(from, hour));
        }
        where = "run " + run + " " + model.text() + " " + model.meetingText(0, count) + " at " + hour;
        for (int from = 0; from < people; from++) {
            for (int to = 0; to < people; to++) {
                List<int[]> ways = model.waysTo(all.get(from), from, to);
                build();
                ways(from, to, hour, ways, all);
                if (random.nextInt(3) == 0) {
                    build();
                    tales(from, to, hour, ways, all);
                    tales(from, to, hour, ways, all);
                }
            }
        }
        build();
        gossips(hour, all);
        build();
        latests();
    }

    private void build() {
        x = new EachAddsALine();
        Checks.roads(x, model.text());
        int told = model.meetings.length;
        for (int m = 0; m < told; m += 8) {
            int behind = Math.min(told, m + 8);
            checks.due("build", Checks.roads(x, model.meetingText(m, behind)), behind - m);
        }
    }

    private static int[] cut(int[] row) {
        return row.length > 12 ? Arrays.copyOf(row, 12) : row;
    }

    private interface Weight {
        long of(int[] row);
    }

    private static int[] best(List<int[]> ways, Weight weight) {
        int[] best = null;
        for (int[] row : ways) {
            if (best == null || weight.of(row) < weight.of(best)
                || weight.of(row) == weight.of(best) && Model.compare(row, best) < 0) {
                best = row;
            }
        }
        return best;
    }

    private void dueWay(String call, int got, int[] best, int want) {
        checks.due(where + " " + call, got, best == null ? -2 : want);
        if (best != null) {
            checks.dueRow(where + " " + call, x, cut(best));
        }
    }

    private void ways(int from, int to, int hour, List<int[]> ways, List<List<int[]>> all) {
        String who = "(" + from + ", " + to + ") ";
        int[] best = best(ways, r -> model.hourOf(r) * 100L + r.length);
        dueWay("soonest" + who, x.soonest(from, to, hour), best, best == null ? 0 : model.hourOf(best));
        best = best(ways, r -> r.length);
        dueWay("hands" + who, x.hands(from, to, hour), best, best == null ? 0 : best.length);
        best = best(ways, r -> model.priceOf(r) * 100L + r.length);
        dueWay("cheapest" + who, x.cheapest(from, to, hour), best, best == null ? 0 : model.priceOf(best));
        best = best(ways, r -> -r.length);
        dueWay("longest" + who, x.longest(from, to, hour), best, best == null ? 0 : best.length);
        checks.due(where + " ways" + who, x.ways(from, to, hour), ways.size());
        bargain(from, to, hour, ways, random.nextInt(100));
        without(from, to, hour, ways, random.nextInt(1 << model.people));
        needs(from, to, hour, ways);
        worst(from, to, hour, ways);
        if (from != to) {
            apart(from, to, hour, ways);
            answers(from, to, hour, all);
        }
    }

    private void bargain(int from, int to, int hour, List<int[]> ways, int by) {
        List<int[]> some = new ArrayList<>();
        for (int[] row : ways) {
            if (model.hourOf(row) <= by) {
                some.add(row);
            }
        }
        int[] best = best(some, r -> model.priceOf(r) * 100L + r.length);
        dueWay("bargain by " + by, x.bargain(from, to, hour, by), best, best == null ? 0 : model.priceOf(best));
    }

    private int between(int from, int[] row) {
        int[] who = model.getters(from, row);
        int bits = 0;
        for (int k = 0; k + 1 < who.length; k++) {
            bits |= 1 << who[k];
        }
        return bits;
    }

    private void without(int from, int to, int hour, List<int[]> ways, int those) {
        List<int[]> some = new ArrayList<>();
        for (int[] row : ways) {
            if ((between(from, row) & those) == 0) {
                some.add(row);
            }
        }
        int[] best = best(some, r -> model.hourOf(r) * 100L + r.length);
        String call = "without(" + from + ", " + to + ", " + those + ")";
        dueWay(call, x.without(from, to, hour, those), best, best == null ? 0 : model.hourOf(best));
    }

    private void needs(int from, int to, int hour, List<int[]> ways) {
        int need = ways.isEmpty() ? 0 : -1;
        int busy = 0;
        for (int[] row : ways) {
            int bits = 0;
            for (int m : row) {
                bits |= 1 << m;
            }
            need &= bits;
            busy |= between(from, row);
        }
        checks.due(where + " needs" + from + to, x.needs(from, to, hour), need);
        int idle = (1 << model.people) - 1 & ~busy & ~(1 << from) & ~(1 << to);
        checks.due(where + " idle" + from + to, x.idle(from, to, hour), idle);
    }

    private void worst(int from, int to, int hour, List<int[]> ways) {
        int worst = -2;
        int latest = -1;
        for (int gone = 0; gone < model.meetings.length && !ways.isEmpty(); gone++) {
            int soonest = 1000;
            for (int[] row : ways) {
                boolean uses = false;
                for (int m : row) {
                    uses |= m == gone;
                }
                soonest = uses ? soonest : Math.min(soonest, model.hourOf(row));
            }
            if (soonest > latest) {
                latest = soonest;
                worst = gone;
            }
        }
        checks.due(where + " worst" + from + to, x.worst(from, to, hour), worst);
        if (worst >= 0) {
            checks.dueRow(where + " worst", x, latest == 1000 ? -1 : latest);
        }
    }

    private void apart(int from, int to, int hour, List<int[]> ways) {
        int ends = 1 << from | 1 << to;
        int others = (1 << model.people) - 1 & ~ends;
        int least = -1;
        for (int part = 0; part < 1 << model.people && least < 0; part++) {
            if ((part & ~others) != 0) {
                continue;
            }
            boolean first = false;
            boolean second = false;
            for (int[] row : ways) {
                int between = between(from, row);
                first |= (between & ~part) == 0;
                second |= (between & ~(others & ~part)) == 0;
            }
            if (first && second) {
                least = part;
            }
        }
        checks.due(where + " apart" + from + to, x.apart(from, to, hour), least < 0 ? 0 : 1);
        if (least < 0) {
            checks.dueRow(where + " apart", x);
        } else {
            checks.dueRow(where + " apart", x, least);
        }
    }

    private int soonest(List<int[]> all, int from, int to) {
        int least = -1;
        for (int[] row : all) {
            if (model.endOf(from, row) == to && (least < 0 || model.hourOf(row) < least)) {
                least = model.hourOf(row);
            }
        }
        return least;
    }

    private int[] answer(int asker, int other, List<List<int[]>> all) {
        int came = soonest(all.get(asker), asker, other);
        if (came < 0) {
            return null;
        }
        int back = soonest(model.allWays(other, came + model.reading[other]), other, asker);
        return back < 0 ? null : new int[] {back, came};
    }

    private void answers(int asker, int other, int hour, List<List<int[]>> all) {
        int[] due = answer(asker, other, all);
        checks.due(where + " answer" + asker + other, x.answer(asker, other, hour), due == null ? -2 : due[0]);
        if (due != null) {
            checks.dueRow(where + " answer", x, due[1]);
        }
    }

    private int knowers(int from, int by, List<int[]> all) {
        int bits = 1 << from;
        for (int[] row : all) {
            if (model.hourOf(row) <= by) {
                bits |= 1 << model.endOf(from, row);
            }
        }
        return bits;
    }

    private void gossips(int hour, List<List<int[]>> all) {
        int by = hour + random.nextInt(100 - hour);
        int everybody = (1 << model.people) - 1;
        int postman = -2;
        int most = 0;
        int[] known = new int[model.people];
        int pairs = 0;
        int[] pair = {};
        for (int p = 0; p < model.people; p++) {
            known[p] = knowers(p, by, all.get(p));
            gossip(p, hour, by, known[p], all.get(p));
            if (Integer.bitCount(known[p]) > most) {
                most = Integer.bitCount(known[p]);
                postman = p;
            }
            int[] first = far(p, hour, all.get(p));
            for (int q = 0; q < model.people; q++) {
                if (p != q && first[q] >= 0) {
                    pairs++;
                    pair = pair.length == 0 || first[q] > pair[2] ? new int[] {p, q, first[q]} : pair;
                }
            }
            ask(p, hour, all);
        }
        checks.due(where + " pairs", x.pairs(hour), pairs);
        checks.dueRow(where + " pairs", x, pair);
        checks.due(where + " postman by " + by, x.postman(hour, by), postman);
        checks.dueRow(where + " postman", x, most);
        int heralds = everybody;
        for (int those = everybody; those > 0; those--) {
            int bits = 0;
            for (int p = 0; p < model.people; p++) {
                bits |= (those >> p & 1) == 1 ? known[p] : 0;
            }
            if (bits == everybody && Integer.bitCount(those) <= Integer.bitCount(heralds)) {
                heralds = those;
            }
        }
        checks.due(where + " heralds by " + by, x.heralds(hour, by), Integer.bitCount(heralds));
        checks.dueRow(where + " heralds", x, heralds);
    }

    private void gossip(int from, int hour, int by, int known, List<int[]> all) {
        int last = hour;
        for (int p = 0; p < model.people; p++) {
            if (p != from && (known >> p & 1) == 1) {
                last = Math.max(last, soonest(all, from, p));
            }
        }
        checks.due(where + " gossip " + from + " by " + by, x.gossip(from, hour, by), known);
        checks.dueRow(where + " gossip", x, last);
    }

    private int[] far(int from, int hour, List<int[]> all) {
        int[] first = new int[model.people];
        int count = 0;
        for (int p = 0; p < model.people; p++) {
            first[p] = soonest(all, from, p);
            count += p != from && first[p] >= 0 ? 1 : 0;
        }
        checks.due(where + " far " + from, x.far(from, hour), count);
        checks.dueRow(where + " far", x, first);
        return first;
    }

    private void ask(int asker, int hour, List<List<int[]>> all) {
        int best = -2;
        int back = 1000;
        for (int p = 0; p < model.people; p++) {
            int[] due = p == asker ? null : answer(asker, p, all);
            if (due != null && due[0] < back) {
                best = p;
                back = due[0];
            }
        }
        checks.due(where + " ask " + asker, x.ask(asker, hour), best);
        if (best >= 0) {
            checks.dueRow(where + " ask", x, back);
        }
    }

    private void latests() {
        int by = random.nextInt(100);
        for (int from = 0; from < model.people; from++) {
            List<int[]> all = model.allWays(from, 0);
            for (int to = 0; to < model.people; to++) {
                int latest = -2;
                for (int[] row : model.waysTo(all, from, to)) {
                    if (model.hourOf(row) <= by) {
                        latest = Math.max(latest, model.meetings[row[0]][2]);
                    }
                }
                checks.due(where + " latest" + from + to + " by " + by, x.latest(from, to, by), latest);
            }
        }
    }

    private void tales(int from, int to, int hour, List<int[]> ways, List<List<int[]>> all) {
        int which = random.nextInt(Model.RULES.length);
        model.rule = Model.SAME[which];
        checks.due("rule", Checks.rule(x, Model.RULES[which]), 0);
        int[] tale = someTale(from, ways);
        StringBuilder s = new StringBuilder();
        for (int line : tale) {
            s.append(line);
        }
        checks.due("tale", Checks.tale(x, s.toString()), tale.length);
        String told = where;
        where = where + " rule " + Model.RULES[which] + " tale " + s + " of " + from + to;
        fits(from, to, hour, tale, ways);
        missing(from, to, hour, tale, ways);
        lies(from, to, hour, tale, ways);
        writers(to, hour, tale, all);
        when(from, to, tale);
        if (random.nextInt(3) == 0) {
            copies(from, to, tale);
        }
        where = told;
    }

    /** Lines of a way, at times changed, cut or with one left out. */
    private int[] someTale(int from, List<int[]> ways) {
        int first = random.nextInt(10);
        int[] tale = {first};
        if (!ways.isEmpty() && random.nextInt(10) > 0) {
            int[] row = ways.get(random.nextInt(ways.size()));
            tale = model.linesOf(from, row, first, random.nextInt(3) == 0 ? random.nextInt(row.length) : -1);
        }
        if (tale.length > 12) {
            tale = Arrays.copyOf(tale, 12);
        }
        if (random.nextInt(4) == 0) {
            tale[random.nextInt(tale.length)] = random.nextInt(10);
        }
        return tale;
    }

    private List<int[]> fitting(int from, int to, int[] tale, List<int[]> ways) {
        List<int[]> some = new ArrayList<>();
        if (tale.length == 1 && from == to) {
            some.add(new int[0]);
        }
        for (int[] row : ways) {
            if (row.length == tale.length - 1 && Arrays.equals(model.linesOf(from, row, tale[0], -1), tale)) {
                some.add(row);
            }
        }
        return some;
    }

    private void fits(int from, int to, int hour, int[] tale, List<int[]> ways) {
        List<int[]> some = fitting(from, to, tale, ways);
        checks.due(where + " fits", x.fits(from, to, hour), some.size());
        checks.dueRow(where + " fits", x, some.isEmpty() ? new int[0] : best(some, r -> 0));
        int each = some.isEmpty() ? 0 : -1;
        int any = 0;
        for (int[] row : some) {
            int bits = 1 << from | between(from, row) | 1 << model.endOf(from, row);
            each &= bits;
            any |= bits;
        }
        checks.due(where + " sure", x.sure(from, to, hour), each);
        checks.dueRow(where + " sure", x, any);
    }

    private void missing(int from, int to, int hour, int[] tale, List<int[]> ways) {
        long count = 0;
        int bits = 0;
        for (int[] row : ways) {
            for (int out = 0; out < row.length && row.length == tale.length; out++) {
                if (Arrays.equals(model.linesOf(from, row, tale[0], out), tale)) {
                    count++;
                    bits |= 1 << model.getters(from, row)[out];
                }
            }
        }
        checks.due(where + " missing", x.missing(from, to, hour), count);
        checks.dueRow(where + " missing", x, bits);
    }

    private int falseLines(int from, int[] row, int[] tale) {
        int[] who = model.getters(from, row);
        List<Integer> ahead = new ArrayList<>();
        ahead.add(tale[0]);
        int count = 0;
        for (int k = 0; k < row.length; k++) {
            int giver = k == 0 ? from : who[k - 1];
            count += model.lineFor(who[k], giver, model.meetings[row[k]][2], ahead) == tale[k + 1] ? 0 : 1;
            ahead.add(tale[k + 1]);
        }
        return count;
    }

    private void lies(int from, int to, int hour, int[] tale, List<int[]> ways) {
        List<int[]> some = new ArrayList<>();
        if (tale.length == 1 && from == to) {
            some.add(new int[0]);
        }
        for (int[] row : ways) {
            if (row.length == tale.length - 1) {
                some.add(row);
            }
        }
        int[] best = best(some, r -> falseLines(from, r, tale));
        checks.due(where + " lies", x.lies(from, to, hour), best == null ? -3 : falseLines(from, best, tale));
        if (best != null) {
            checks.dueRow(where + " lies", x, best);
        }
    }

    private void writers(int to, int hour, int[] tale, List<List<int[]>> all) {
        int bits = 0;
        for (int p = 0; p < model.people; p++) {
            bits |= fitting(p, to, tale, model.waysTo(all.get(p), p, to)).isEmpty() ? 0 : 1 << p;
        }
        checks.due(where + " writers", x.writers(to, hour), bits);
    }

    /** Hours at which it can have been written: all the ways of hour 0 that set out then or later. */
    private boolean[] hours(int from, int to, int[] tale) {
        boolean[] can = new boolean[100];
        for (int[] row : fitting(from, to, tale, model.waysTo(model.allWays(from, 0), from, to))) {
            for (int hour = 0; hour < 100; hour++) {
                can[hour] |= row.length == 0 || model.meetings[row[0]][2] >= hour;
            }
        }
        return can;
    }

    private void dueHours(String call, int got, boolean[] can) {
        int count = 0;
        int first = -1;
        int last = -1;
        for (int hour = 0; hour < 100; hour++) {
            if (can[hour]) {
                count++;
                first = first < 0 ? hour : first;
                last = hour;
            }
        }
        checks.due(where + " " + call, got, count);
        checks.dueRow(where + " " + call, x, count == 0 ? new int[0] : new int[] {first, last});
    }

    private void when(int from, int to, int[] tale) {
        dueHours("when", x.when(from, to), hours(from, to, tale));
    }

    /** Lays the tale by, tells another one (a way's to somebody else) and holds both together. */
    private void copies(int from, int other, int[] laid) {
        checks.due(where + " lay", x.lay(), true);
        int one = random.nextInt(model.people);
        int[] tale = someTale(from, model.waysTo(model.allWays(from, 0), from, one));
        if (random.nextInt(5) > 0) {
            tale[0] = laid[0];
        }
        StringBuilder s = new StringBuilder();
        for (int line : tale) {
            s.append(line);
        }
        checks.due("tale", Checks.tale(x, s.toString()), tale.length);
        boolean[] both = hours(from, one, tale);
        boolean[] others = hours(from, other, laid);
        for (int hour = 0; hour < 100; hour++) {
            both[hour] &= others[hour] && tale[0] == laid[0];
        }
        dueHours("copies with " + s + " of " + one, x.copies(from, one, other), both);
    }
}
