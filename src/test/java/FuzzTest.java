import java.util.NoSuchElementException;
import java.util.Random;

/**
 * Odd arguments in any state: nothing is thrown but what the document names, and refused calls change nothing. An
 * object is left ahead of its 512th call, as nothing is promised behind it: to see all of the state takes 137 calls.
 */
public final class FuzzTest {
    private static final int[] ODD = {
        Integer.MIN_VALUE, -1000, -2, -1, 0, 1, 2, 3, 4, 5, 8, 9, 10, 11, 12, 19, 20, 21, 29, 30, 31, 50, 98, 99, 100,
        255, 511, 512, 1023, 65536, Integer.MAX_VALUE};
    private static final String[] TEXTS = {
        "1;2;3", "1;1;1;1;1;1;1;1;1", "ab@1;bc@3;ca@9*9", "ab@5;ab@7;ab@9;ba@11;bc@20", "i+g*h", "n", "s-l*f/(h-5)",
        "-(-(-(i<g)))", "712", "012345678901", "bcb", "a", "bcacb", "x", "", ";", "(((((i)))))", "1234", "ab@", "cb@99*3",
        "ab@0;cd@7;de@12;ef@17;fg@22;gh@27;hi@32;ia@40;ab@50;bd@60"};

    private final Checks checks = new Checks("FuzzTest");
    private final Random random = new Random(7);

    public static void main(String[] args) {
        FuzzTest test = new FuzzTest();
        for (int run = 0; run < 40000; run++) {
            test.run(run);
        }
        test.checks.finish();
    }

    private void run(int run) {
        EachAddsALine x = new EachAddsALine();
        int calls = 0;
        while (calls < 150) {
            if (random.nextInt(6) == 0) {
                String text = TEXTS[random.nextInt(TEXTS.length)];
                Checks.put(x, text);
                calls += 3 + text.length() / 4;
            }
            call(x, run + "/" + calls, random.nextInt(52), false);
            calls += 3;
        }
        call(x, run + " at its end", random.nextInt(52), true);
    }

    private int any() {
        int n = random.nextInt(20);
        return n < 9 ? random.nextInt(10) : n < 15 ? random.nextInt(100) : n < 19 ? ODD[random.nextInt(ODD.length)] : random.nextInt();
    }

    private void call(EachAddsALine x, String where, int which, boolean isSeen) {
        int[] ahead = isSeen ? state(x) : null;
        int textAhead = x.count(6);
        long answer;
        try {
            answer = answerOf(x, which, any(), any(), any(), any());
        } catch (NoSuchElementException e) {
            checks.due(where + " call " + which + " threw", which == 5 || which == 51, true);
            answer = -1;
        }
        boolean reads = which == 2 || which == 3 || which == 31 || which == 32;
        if (reads) {
            checks.due(where + " call " + which + " empties the text", x.count(6), 0);
        } else if (which > 1) {
            checks.due(where + " call " + which + " leaves the text", x.count(6), textAhead);
        }
        // sheet() alone changes something (all prices) with an answer below 0
        if (isSeen && answer < 0 && which != 8) {
            int[] behind = state(x);
            for (int k = 0; k < ahead.length; k++) {
                checks.due(where + " call " + which + " answered " + answer + ", state " + k, behind[k], ahead[k]);
            }
        }
    }

    /** All that the face shows without changing the row. */
    private static int[] state(EachAddsALine x) {
        int[] v = new int[170];
        int n = 0;
        for (int k = 0; k < 6; k++) {
            v[n++] = x.count(k);
        }
        for (int k = 0; k < 12; k++) {
            v[n++] = Checks.rowAt(x, k);
        }
        for (int p = 0; p < 9; p++) {
            v[n++] = x.reads(p);
            v[n++] = x.read(p);
        }
        for (int m = 0; m < 20; m++) {
            for (int what = 0; what < 4; what++) {
                v[n++] = Checks.meetingAt(x, m, what);
            }
        }
        for (int letter = 0; letter < 3; letter++) {
            for (int what = 0; what < 5; what++) {
                v[n++] = x.of(letter, what);
            }
            v[n++] = x.can(letter);
            v[n++] = x.check(letter);
        }
        return v;
    }

    private long answerOf(EachAddsALine x, int which, int a, int b, int c, int d) {
        switch (which) {
            case 0: return x.sign(a);
            case 1: return x.end(a) ? 1 : 0;
            case 2: return x.roads();
            case 3: return x.rule();
            case 4: return x.reads(a);
            case 5: return x.meeting(a, b);
            case 6: return x.slow(a, b);
            case 7: return x.move(a, b, c);
            case 8: return x.sheet(a, b, c, d);
            case 9: return x.write(a % 3, b, c, d) ? 1 : -1;
            case 10: return x.hand(a % 3, b);
            case 11: return x.undo(a);
            case 12: return x.lines(a);
            case 13: return x.of(a, b);
            case 14: return x.can(a);
            case 15: return x.goes(a % 3, b);
            case 16: return x.read(a);
            case 17: return x.soonest(a, b, c);
            case 18: return x.latest(a, b, c);
            case 19: return x.hands(a, b, c);
            case 20: return x.cheapest(a, b, c);
            case 21: return x.without(a, b, c, d);
            case 22: return x.ways(a, b, c);
            case 23: return x.needs(a, b, c);
            case 24: return x.idle(a, b, c);
            case 25: return x.longest(a, b, c);
            case 26: return x.pairs(a);
            case 27: return x.bargain(a, b, c, d);
            case 28: return x.apart(a, b, c);
            case 29: return x.far(a, b);
            case 30: return x.worst(a, b, c);
            case 31: return x.way(a, b);
            case 32: return x.tale();
            case 33: return x.check(a);
            case 34: return x.copy(a);
            case 35: return x.fits(a, b, c);
            case 36: return x.sure(a, b, c);
            case 37: return x.writers(a, b);
            case 38: return x.missing(a, b, c);
            case 39: return x.lies(a, b, c);
            case 40: return x.lay() ? 1 : -1;
            case 41: return x.copies(a, b, c);
            case 42: return x.when(a, b);
            case 43: return x.answer(a, b, c);
            case 44: return x.ask(a, b);
            case 45: return x.gossip(a, b, c);
            case 46: return x.postman(a, b);
            case 47: return x.heralds(a, b);
            case 48: return x.keep(a) ? 1 : -1;
            case 49: return x.again(a) ? 1 : -1;
            case 50: return x.count(a);
            default: return x.row(a);
        }
    }
}
