import java.util.Random;

/** Random rules, by their text and by their value told apart from it; and texts that can't stand. */
public final class RuleTest {
    private static final String FACTS = "ighnfls";

    private final Checks checks = new Checks("RuleTest");
    private final Random random = new Random(5);
    private final int[] facts = new int[7];

    /** A part of a rule: its text and what it is worth for the facts at hand. */
    private static final class Part {
        final String text;
        final int value;

        Part(String text, int value) {
            this.text = text;
            this.value = value;
        }
    }

    public static void main(String[] args) {
        RuleTest test = new RuleTest();
        for (int run = 0; run < 20000; run++) {
            test.random(run);
        }
        test.faults();
        test.checks.finish();
    }

    private Part number() {
        int v = random.nextInt(4) == 0 ? random.nextInt(1000) : random.nextInt(12);
        String text = "" + v;
        return new Part(text.length() < 3 && random.nextInt(5) == 0 ? "0" + text : text, v);
    }

    private Part thing(int depth) {
        int n = random.nextInt(depth < 4 ? 7 : 5);
        if (n == 0) {
            return number();
        }
        if (n < 5) {
            int f = random.nextInt(7);
            return new Part(FACTS.substring(f, f + 1), facts[f]);
        }
        Part inner = expression(depth + 1);
        return new Part("(" + inner.text + ")", inner.value);
    }

    private Part signed(int depth) {
        Part p = thing(depth);
        for (int k = random.nextInt(8) == 0 ? 1 + random.nextInt(3) : 0; k > 0; k--) {
            p = new Part("-" + p.text, -p.value);
        }
        return p;
    }

    private Part product(int depth) {
        Part p = signed(depth);
        while (random.nextInt(3) == 0) {
            Part q = signed(depth);
            p = random.nextBoolean() ? new Part(p.text + "*" + q.text, p.value * q.value)
                : new Part(p.text + "/" + q.text, q.value == 0 ? 0 : p.value / q.value);
        }
        return p;
    }

    private Part sum(int depth) {
        Part p = product(depth);
        while (random.nextInt(3) == 0) {
            Part q = product(depth);
            p = random.nextBoolean() ? new Part(p.text + "+" + q.text, p.value + q.value)
                : new Part(p.text + "-" + q.text, p.value - q.value);
        }
        return p;
    }

    private Part expression(int depth) {
        Part p = sum(depth);
        if (random.nextInt(4) > 0) {
            return p;
        }
        Part q = sum(depth);
        switch (random.nextInt(3)) {
            case 0: return new Part(p.text + "<" + q.text, p.value < q.value ? 1 : 0);
            case 1: return new Part(p.text + ">" + q.text, p.value > q.value ? 1 : 0);
            default: return new Part(p.text + "=" + q.text, p.value == q.value ? 1 : 0);
        }
    }

    /** The letter goes c, a, b, .. under the rule n; then b hands it to one of a .. i, by the rule. */
    private void random(int run) {
        EachAddsALine x = new EachAddsALine();
        int hour = 50 + random.nextInt(50);
        int getter = random.nextInt(9);
        getter = getter == 1 ? 2 : getter;
        Checks.roads(x, "1;1;1;1;1;1;1;1;1;ca@10;ab@20;b" + (char) ('a' + getter) + "@" + hour);
        int first = random.nextInt(10);
        x.write(0, 2, 3, first);
        x.hand(0, 0);
        x.hand(0, 1);
        int[] v = {getter, 1, hour, 3, first, 2, first + 1 + 2};
        System.arraycopy(v, 0, facts, 0, 7);
        Part p = expression(0);
        if (p.text.length() > 40) {
            return;
        }
        checks.due(run + " " + p.text, Checks.rule(x, p.text), 0);
        checks.due(run + " " + p.text + " line", x.hand(0, 2), Math.floorMod(p.value, 10));
    }

    private void fault(String text, int place) {
        EachAddsALine x = new EachAddsALine();
        Checks.roads(x, "1;1;ab@1");
        x.write(0, 0, 0, 5);
        Checks.rule(x, "7");
        checks.due("rule " + text, Checks.rule(x, text), -1 - place);
        checks.due("rule " + text + " empties", x.count(6), 0);
        checks.due("rule " + text + " leaves the old one", x.hand(0, 0), 7);
    }

    private void faults() {
        fault("x", 0);
        fault("i+", 2);
        fault("i<g<h", 3);
        fault("i<g=h", 3);
        fault("(i<g)<h>1", 7);
        fault("(i", 2);
        fault("i)", 1);
        fault("()", 1);
        fault("(((((i", 4);
        fault("(((((i)))))", 4);
        fault("1000", 3);
        fault("i1", 1);
        fault("1i", 1);
        fault("*i", 0);
        fault("+i", 0);
        fault("i*+g", 2);
        fault("<i", 0);
        fault("i<", 2);
        fault("-", 1);
        fault("i g", 1);
        fault("I", 0);
        fault("m", 0);
        fault("i\u00e9", 1);
        fault("1(2)", 1);
        fault("1" + "+1".repeat(20), 40);
        fault("1" + "+1".repeat(19) + "+", 40);
        fault("1" + "+1".repeat(19) + "+x", 40);
        fault("1" + "+1".repeat(18) + "+x+1+1", 38);
        fault("(".repeat(4) + "i" + "+1".repeat(20) + "))))", 40);
        fault("-".repeat(40), 40);
        fault("-".repeat(41) + "i", 40);
        EachAddsALine x = new EachAddsALine();
        checks.due("40 signs", Checks.rule(x, "-".repeat(39) + "i"), 0);
        checks.due("four deep", Checks.rule(x, "((((i))))+((((g))))"), 0);
        checks.due("none", Checks.rule(x, ""), 0);
    }
}
