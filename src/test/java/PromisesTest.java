/** Each promise at ordinary inputs, at the edges that the document names, and at wrong ones. */
public final class PromisesTest {
    private static final String ROADS = "2;1;3;1;ab@5*2;bc@8*1;ac@9*4;cd@12*1;bd@13*3;ba@20";
    private static final int THROWS = Integer.MIN_VALUE;

    private final Checks checks = new Checks("PromisesTest");
    private EachAddsALine x;

    public static void main(String[] args) {
        PromisesTest test = new PromisesTest();
        test.newObject();
        test.text();
        test.roadsTold();
        test.roadsWrong();
        test.ruleTold();
        test.peopleAndMeetings();
        test.slowAndMove();
        test.sheets();
        test.writing();
        test.handing();
        test.undoing();
        test.linesAndOf();
        test.canAndGoes();
        test.manyLines();
        test.ways();
        test.waysOfOneHour();
        test.longWays();
        test.reachable();
        test.followed();
        test.tales();
        test.checked();
        test.fitting();
        test.copiesAndWhen();
        test.answers();
        test.gossip();
        test.kept();
        test.rowStays();
        test.wrongArguments();
        test.checks.finish();
    }

    private void fresh(String roads) {
        x = new EachAddsALine();
        Checks.roads(x, roads);
    }

    private void due(String call, long got, long want) {
        checks.due(call, got, want);
    }

    private void due(String call, boolean got, boolean want) {
        checks.due(call, got, want);
    }

    private void row(int... want) {
        checks.dueRow("", x, want);
    }

    // promises 1, 52, 53
    private void newObject() {
        x = new EachAddsALine();
        for (int what = 0; what <= 6; what++) {
            due("count " + what, x.count(what), 0);
        }
        due("count 7", x.count(7), -1);
        due("count -1", x.count(-1), -1);
        row();
        due("reads", x.reads(0), -1);
        due("lay", x.lay(), true);
        due("pairs", x.pairs(0), 0);
        due("postman", x.postman(0, 99), -2);
        due("heralds", x.heralds(0, 0), 0);
        row(0);
        due("a constant", EachAddsALine.NONE, -1);
    }

    // promises 2, 3
    private void text() {
        x = new EachAddsALine();
        for (int k = 1; k <= 20; k++) {
            due("sign " + k, x.sign(0x31323334), 4 * k);
        }
        due("sign 21", x.sign(0x31323334), -1);
        due("count", x.count(6), 80);
        due("end 81", x.end(81), false);
        due("end -1", x.end(-1), false);
        due("end 80", x.end(80), true);
        due("end 77", x.end(77), true);
        due("sign at 77", x.sign(0), -1);
        due("end 76", x.end(76), true);
        due("sign at 76", x.sign(0), 80);
        due("end 4", x.end(4), true);
        due("tale", x.tale(), 4);
        due("count", x.count(6), 0);
        due("end 1", x.end(1), false);
        due("end 0", x.end(0), true);
        x.sign(0xff313030);
        due("highest byte first", x.tale(), -1);
        x.sign(0x313030ff);
        due("lowest byte last", x.tale(), -4);
        x.write(0, 0, 0, 0);
        due("the tale stays", x.count(3), 4);
    }

    // promise 4
    private void roadsTold() {
        fresh(ROADS);
        due("people", x.count(0), 4);
        due("meetings", x.count(1), 6);
        due("empty", Checks.roads(x, ""), 0);
        due("more", Checks.roads(x, "9;ae@07*0;ea@0"), 3);
        due("people", x.count(0), 5);
        due("reads", x.reads(4), 9);
        due("hour 07", Checks.meetingAt(x, 6, 2), 7);
        due("first", Checks.meetingAt(x, 7, 0), 4);
        due("nothing comes", Checks.roads(x, "1;1;af@1;x"), -10);
        due("people", x.count(0), 5);
        due("meetings", x.count(1), 8);
        due("none of those who did not come", Checks.roads(x, "fa@1"), -1);
        due("76 signs", Checks.roads(x, "ab@10*1;".repeat(9) + "ab@1"), 10);
        due("meetings", x.count(1), 18);
        due("two more", Checks.roads(x, "ab@1;ab@2"), 2);
        due("no room", Checks.roads(x, "1;ab@1"), -3);
        due("nothing of it", x.count(0), 5);
        due("four more", Checks.roads(x, "1;1;1;1"), 4);
        due("no room", Checks.roads(x, "1"), -1);
    }

    private void roadsFault(String text, int place) {
        fresh("1;1");
        due("roads " + text, Checks.roads(x, text), -1 - place);
        due("roads " + text + " empties", x.count(6), 0);
        due("roads " + text + " brings none", x.count(0), 2);
        due("roads " + text + " brings none", x.count(1), 0);
    }

    private void roadsWrong() {
        roadsFault(";", 0);
        roadsFault("0", 0);
        roadsFault("A", 0);
        roadsFault("1;", 2);
        roadsFault("1;;1", 2);
        roadsFault("12", 1);
        roadsFault("1 ", 1);
        roadsFault("ab", 2);
        roadsFault("a", 1);
        roadsFault("a;", 1);
        roadsFault("aa@1", 1);
        roadsFault("ac@1", 1);
        roadsFault("ca@1", 0);
        roadsFault("1;1;ae@1", 5);
        roadsFault("`a@1", 0);
        roadsFault("jb@1", 0);
        roadsFault("ab1", 2);
        roadsFault("ab@", 3);
        roadsFault("ab@*", 3);
        roadsFault("ab@1*", 5);
        roadsFault("ab@1*x", 5);
        roadsFault("ab@1*12", 6);
        roadsFault("ab@123", 5);
        roadsFault("ab@1x", 4);
        roadsFault("ab@12*;", 6);
        roadsFault("ab@12;", 6);
        roadsFault("1;1;1;1;1;1;1;1", 14);
        roadsFault("ab@10*1;".repeat(9) + "ab@1;", 76);
        roadsFault("ab@10*1;".repeat(9) + "ab@12", 76);
        roadsFault("ab@10*1;".repeat(9) + "ab@1xx", 76);
        roadsFault("ab@10*1;".repeat(9) + "ab@x1;1", 75);
        roadsFault("ab@10*1;".repeat(8) + "ab@10;ab@10;1", 76);
        roadsFault("ab@10*1;".repeat(8) + "ab@10;ab@10*3", 76);
        roadsFault("ab@10*1;".repeat(8) + "ab@10;ab@xx*3", 73);
        roadsFault("ab@1;".repeat(15) + "a", 76);
        fresh("1;1");
        Checks.roads(x, "ab@1;".repeat(14) + "ab@1");
        due("the 21st", Checks.roads(x, "ab@1;".repeat(5) + "ab@1"), -26);
        due("count", x.count(1), 15);
        due("the 20th", Checks.roads(x, "ab@1;".repeat(4) + "ab@1"), 5);
        due("the 21st", Checks.roads(x, "ab@1"), -1);
    }

    // promise 5, beside RuleTest
    private void ruleTold() {
        fresh("1;1;ab@1;ab@5");
        x.write(0, 0, 0, 9);
        due("n at first", x.hand(0, 0), 1);
        due("rule", Checks.rule(x, "-1-l"), 0);
        due("below 0", x.hand(0, 1), 8);
        x.undo(0);
        due("rule", Checks.rule(x, "999*999*999*l"), 0);
        due("as ints", x.hand(0, 1), Math.floorMod(999 * 999 * 999, 10));
        x.undo(0);
        due("rule", Checks.rule(x, "7/(l-1)+3"), 0);
        due("by 0", x.hand(0, 1), 3);
        x.undo(0);
        due("rule", Checks.rule(x, "0-7/2"), 0);
        due("cut to 0", x.hand(0, 1), 7);
        x.undo(0);
        due("rule", Checks.rule(x, "-7/2"), 0);
        due("cut to 0", x.hand(0, 1), 7);
        x.undo(0);
        due("none", Checks.rule(x, ""), 0);
        due("n again", x.hand(0, 1), 2);
    }

    // promises 6, 7
    private void peopleAndMeetings() {
        fresh(ROADS);
        int[] reads = {2, 1, 3, 1, -1};
        for (int p = 0; p < 5; p++) {
            due("reads " + p, x.reads(p), reads[p]);
        }
        due("reads -1", x.reads(-1), -1);
        int[][] meetings = {{0, 1, 5, 2}, {1, 2, 8, 1}, {0, 2, 9, 4}, {2, 3, 12, 1}, {1, 3, 13, 3}, {1, 0, 20, 0}};
        for (int m = 0; m < 6; m++) {
            for (int what = 0; what < 4; what++) {
                due("meeting " + m + what, Checks.meetingAt(x, m, what), meetings[m][what]);
            }
            due("meeting what 4", Checks.meetingAt(x, m, 4), THROWS);
            due("meeting what -1", Checks.meetingAt(x, m, -1), THROWS);
        }
        due("meeting 6", Checks.meetingAt(x, 6, 0), THROWS);
        due("meeting -1", Checks.meetingAt(x, -1, 0), THROWS);
    }

    // promises 8, 9
    private void slowAndMove() {
        fresh(ROADS);
        due("slow", x.slow(0, 9), 2);
        due("slow", x.slow(0, 1), 9);
        due("slow 0", x.slow(0, 0), -1);
        due("slow 10", x.slow(0, 10), -1);
        due("slow none", x.slow(4, 1), -1);
        due("slow -1", x.slow(-1, 1), -1);
        due("reads", x.reads(0), 1);
        due("move hour", x.move(0, 0, 99), 5);
        due("move hour", x.move(0, 0, 0), 99);
        due("move price", x.move(0, 1, 9), 2);
        due("move price", x.move(0, 1, 0), 9);
        due("move -1", x.move(0, 0, -1), -1);
        due("move 100", x.move(0, 0, 100), -1);
        due("price -1", x.move(0, 1, -1), -1);
        due("price 10", x.move(0, 1, 10), -1);
        due("what 2", x.move(0, 2, 1), -1);
        due("what -1", x.move(0, -1, 1), -1);
        due("none such", x.move(6, 0, 1), -1);
        due("none such", x.move(-1, 0, 1), -1);
        due("hour", Checks.meetingAt(x, 0, 2), 0);
        due("price", Checks.meetingAt(x, 0, 3), 0);
        due("moved ahead", x.soonest(0, 1, 0), 0);
        x.move(0, 0, 30);
        due("moved behind", x.soonest(0, 1, 0), 13);
        x.move(4, 0, 10);
        due("moved ahead of others", x.soonest(0, 1, 0), 20);
        x.move(5, 0, 40);
        due("moved behind the other", x.soonest(0, 1, 0), 30);
    }

    private void prices(int... want) {
        for (int m = 0; m < want.length; m++) {
            due("price " + m, Checks.meetingAt(x, m, 3), want[m]);
        }
    }

    // promise 10
    private void sheets() {
        fresh(ROADS);
        due("ints", x.sheet(2, 3, 5, 60), 23);
        prices(5, 9, 9, 0, 0, 0);
        due("bytes", x.sheet(0, 3, 257, 127), 1);
        prices(1, 0, 0, 0, 0, 0);
        due("bytes with their sign", x.sheet(0, 2, 127, 1), 9);
        prices(9, 0, 0, 0, 0, 0);
        due("shorts", x.sheet(1, 3, 65537, 1), 6);
        prices(1, 2, 3, 0, 0, 0);
        due("shorts with their sign", x.sheet(1, 2, 32767, 1), 9);
        prices(9, 0, 0, 0, 0, 0);
        due("ints wrap", x.sheet(2, 2, Integer.MAX_VALUE, 1), 9);
        prices(9, 0, 0, 0, 0, 0);
        due("beyond", x.sheet(2, 20, 1, 0), 6);
        prices(1, 1, 1, 1, 1, 1);
        due("21", x.sheet(2, 21, 3, 0), -1);
        due("21 of a missing one", x.sheet(3, 21, 3, 0), -1);
        due("kind 4", x.sheet(4, 1, 3, 0), -1);
        due("kind -1", x.sheet(-1, -1, 3, 0), -1);
        due("kind 4 ahead of n", x.sheet(4, -1, 3, 0), -1);
        due("n below 0", x.sheet(0, -1, 3, 0), -2);
        due("n below 0", x.sheet(2, Integer.MIN_VALUE, 3, 0), -2);
        prices(1, 1, 1, 1, 1, 1);
        due("none of them", x.sheet(2, 0, 3, 0), 0);
        prices(0, 0, 0, 0, 0, 0);
        x.sheet(2, 20, 1, 0);
        due("missing", x.sheet(3, -5, 3, 0), -3);
        prices(0, 0, 0, 0, 0, 0);
        due("as told", x.cheapest(0, 3, 0), 0);
    }

    // promise 11
    private void writing() {
        fresh(ROADS);
        due("write", x.write(2, 3, 99, 9), true);
        due("letter 3", x.write(3, 0, 0, 0), false);
        due("letter -1", x.write(-1, 0, 0, 0), false);
        due("person 4", x.write(0, 4, 0, 0), false);
        due("person -1", x.write(0, -1, 0, 0), false);
        due("hour 100", x.write(0, 0, 100, 0), false);
        due("hour -1", x.write(0, 0, -1, 0), false);
        due("line 10", x.write(0, 0, 0, 10), false);
        due("line -1", x.write(0, 0, 0, -1), false);
        due("letters", x.count(2), 4);
        due("anew", x.write(2, 0, 0, 1), true);
        x.hand(2, 0);
        due("anew", x.write(2, 1, 8, 2), true);
        due("lines", x.lines(2), 1);
        row(2);
        due("who", x.of(2, 0), 1);
        due("when", x.of(2, 1), 8);
        due("at once", x.hand(2, 1), 1);
    }

    // promise 12
    private void handing() {
        fresh(ROADS);
        x.write(0, 0, 5, 7);
        due("no letter", x.hand(1, 0), -1);
        due("letter 3", x.hand(3, 0), -1);
        due("no meeting", x.hand(0, 6), -1);
        due("no meeting", x.hand(0, -1), -1);
        due("not there", x.hand(0, 1), -2);
        due("at the hour it was written", x.hand(0, 0), 1);
        due("not there", x.hand(0, 2), -2);
        due("back later", x.hand(0, 5), 2);
        due("had come later", x.hand(0, 2), -3);
        x.undo(0);
        x.slow(1, 3);
        due("just read", x.hand(0, 1), 2);
        x.undo(0);
        x.slow(1, 4);
        due("not read", x.hand(0, 1), -3);
        x.write(1, 0, 6, 7);
        due("had come later", x.hand(1, 0), -3);
        due("later", x.hand(1, 2), 1);
        due("just read", x.hand(1, 3), 2);
    }

    // promise 13
    private void undoing() {
        fresh(ROADS);
        due("no letter", x.undo(0), -1);
        due("letter -1", x.undo(-1), -1);
        due("letter 3", x.undo(3), -1);
        x.write(0, 0, 0, 7);
        due("none", x.undo(0), -1);
        due("goes", x.goes(0, 20), 3);
        due("undo", x.undo(0), 2);
        due("who", x.of(0, 2), 2);
        due("since", x.of(0, 3), 8);
        due("undo", x.undo(0), 1);
        due("who", x.of(0, 2), 1);
        due("since", x.of(0, 3), 5);
        due("readers", x.of(0, 4), 3);
        due("undo", x.undo(0), 0);
        due("at once again", x.can(0), 37);
        due("none", x.undo(0), -1);
    }

    // promises 14, 15, 18
    private void linesAndOf() {
        fresh(ROADS);
        due("no letter", x.lines(0), -1);
        due("letter 3", x.lines(3), -1);
        due("no letter", x.of(0, 0), -1);
        x.write(0, 2, 1, 4);
        x.hand(0, 1);
        due("lines", x.lines(0), 2);
        row(4, 1);
        int[] of = {2, 1, 1, 8, 6};
        for (int what = 0; what < 5; what++) {
            due("of " + what, x.of(0, what), of[what]);
        }
        due("of 5", x.of(0, 5), -1);
        due("of -1", x.of(0, -1), -1);
        x.write(2, 1, 0, 0);
        due("read 1", x.read(1), 5);
        due("read 2", x.read(2), 1);
        due("read 0", x.read(0), 0);
        due("read 4", x.read(4), -1);
        due("read -1", x.read(-1), -1);
    }

    // promises 16, 17
    private void canAndGoes() {
        fresh(ROADS);
        due("no letter", x.can(0), -1);
        due("no letter", x.goes(0, 1), -1);
        x.write(0, 0, 9, 0);
        due("can", x.can(0), 36);
        x.write(0, 0, 10, 0);
        due("can", x.can(0), 32);
        due("goes 0", x.goes(0, 0), 0);
        row(0, 10);
        due("goes 21", x.goes(0, 21), -1);
        due("goes -1", x.goes(0, -1), -1);
        due("goes", x.goes(0, 1), 1);
        row(1, 20);
        due("goes no further", x.goes(0, 1), 0);
        row(1, 20);
        fresh("1;1;1;ac@9;ab@5;ca@5;bc@7;ba@6");
        x.write(0, 0, 5, 0);
        due("by hour, then number", x.goes(0, 1), 1);
        row(1, 5);
        due("to one who has not read it", x.goes(0, 20), 1);
        row(2, 7);
        due("lines", x.lines(0), 3);
    }

    /** A letter that goes to and fro as its meetings are moved: up to 30 lines. */
    private void manyLines() {
        fresh("1;1;ab@1;ba@2");
        x.write(0, 0, 0, 5);
        for (int k = 1; k < 30; k++) {
            x.move(k % 2, 0, k);
            due("hand " + k, x.hand(0, k % 2), k % 10);
        }
        due("lines", x.lines(0), 30);
        row(5, 1, 2, 3, 4, 5, 6, 7, 8, 9, 0, 1);
        x.move(0, 0, 60);
        due("30 lines", x.hand(0, 0), -4);
        due("can't", x.can(0), 0);
        x.move(0, 0, 29);
        due("not read is asked first", x.hand(0, 0), -3);
        due("check", x.check(0), -2);
        due("copy", x.copy(0), 12);
        due("tale", x.count(3), 12);
        x.lay();
        due("laid", x.count(4), 12);
        due("undo", x.undo(0), 28);
        x.move(0, 0, 60);
        due("can", x.can(0), 3);
    }

    // promises 19 .. 29, 32, beside BruteForceTest
    private void ways() {
        fresh(ROADS);
        due("soonest", x.soonest(0, 3, 0), 12);
        row(2, 3);
        due("soonest back", x.soonest(0, 0, 0), 20);
        row(0, 5);
        due("can't", x.soonest(0, 3, 10), -2);
        due("latest", x.latest(0, 3, 12), 9);
        due("latest", x.latest(0, 3, 11), -2);
        due("hands", x.hands(0, 3, 0), 2);
        row(0, 4);
        due("cheapest", x.cheapest(0, 3, 0), 4);
        row(0, 1, 3);
        due("bargain", x.bargain(0, 3, 6, 12), 5);
        row(2, 3);
        due("bargain", x.bargain(0, 3, 0, 11), -2);
        due("bargain by before", x.bargain(0, 3, 9, 0), -2);
        due("without", x.without(0, 3, 0, 4), 13);
        row(0, 4);
        due("without the end", x.without(0, 3, 0, 8 + 1), 12);
        row(2, 3);
        due("without", x.without(0, 3, 0, 6), -2);
        due("without none such", x.without(0, 3, 0, 16), -1);
        due("without none such", x.without(0, 3, 0, Integer.MIN_VALUE), -1);
        due("ways", x.ways(0, 0, 0), 3);
        due("needs", x.needs(3, 0, 0), 48);
        due("needs without a way", x.needs(0, 3, 10), 0);
        due("idle", x.idle(3, 0, 0), 4);
        due("idle without a way", x.idle(0, 3, 10), 6);
        due("longest", x.longest(0, 0, 0), 5);
        row(0, 1, 3, 4, 5);
        due("longest", x.longest(0, 3, 10), -2);
        due("worst", x.worst(3, 0, 0), 4);
        row(-1);
        due("worst", x.worst(0, 3, 0), 3);
        row(13);
        due("worst can't", x.worst(0, 3, 10), -2);
        due("apart", x.apart(0, 3, 0), 1);
        row(2);
        due("apart", x.apart(3, 0, 0), 0);
        row();
        due("apart like ones", x.apart(1, 1, 0), -1);
        due("pairs", x.pairs(0), 12);
        row(3, 0, 20);
        due("pairs", x.pairs(21), 0);
        row();
        due("pairs 100", x.pairs(100), -1);
        due("pairs -1", x.pairs(-1), -1);
    }

    private void waysOfOneHour() {
        fresh("1;1;1;ab@5;ab@5;bc@5;bc@6;ac@6*9;ba@5");
        due("the first of like ones", x.soonest(0, 1, 5), 5);
        row(0);
        due("not within an hour", x.soonest(0, 2, 5), 6);
        row(4);
        due("cheapest", x.cheapest(0, 2, 5), 0);
        row(0, 3);
        due("apart with one meeting for both", x.apart(0, 1, 5), 1);
        row(0);
        due("worst that changes nothing", x.worst(0, 1, 5), 0);
        row(5);
        due("ways", x.ways(0, 2, 5), 4);
        due("too late", x.soonest(0, 1, 6), -2);
        due("latest", x.latest(0, 1, 99), 5);
        due("hands", x.hands(0, 0, 0), -2);
    }

    private void longWays() {
        fresh("1;1");
        for (int m = 0; m < 20; m += 5) {
            StringBuilder s = new StringBuilder();
            for (int k = m; k < m + 5; k++) {
                s.append(s.length() == 0 ? "" : ";").append("ab@").append(40 - 2 * k);
            }
            Checks.roads(x, s.toString());
        }
        due("longest to b", x.longest(0, 1, 0), 19);
        row(18, 17, 16, 15, 14, 13, 12, 11, 10, 9, 8, 7);
        due("longest to a", x.longest(0, 0, 0), 20);
        row(19, 18, 17, 16, 15, 14, 13, 12, 11, 10, 9, 8);
        due("ways to b", x.ways(0, 1, 0), 1 << 19);
        due("ways to a", x.ways(0, 0, 0), (1 << 19) - 1);
        due("hands", x.hands(0, 1, 0), 1);
        row(0);
        due("way of 21", Checks.way(x, "babababababababababab", 0, 0), -120);
        due("way of 20", Checks.way(x, "babababababababababa", 0, 0), 40);
        row(19, 18, 17, 16, 15, 14, 13, 12, 11, 10, 9, 8);
        due("way of 31", Checks.way(x, "ba".repeat(15) + "b", 0, 0), -31);
        due("way of 30", Checks.way(x, "ba".repeat(15), 0, 0), -120);
        x.write(0, 0, 0, 3);
        due("tale", Checks.tale(x, "312345678901"), 12);
        due("fits", x.fits(0, 1, 0), 167960);
        row(10, 9, 8, 7, 6, 5, 4, 3, 2, 1, 0);
    }

    // promise 31
    private void reachable() {
        fresh(ROADS);
        due("far", x.far(0, 0), 3);
        row(20, 5, 8, 12);
        due("far", x.far(0, 10), 1);
        row(-1, 20, -1, -1);
        due("far", x.far(0, 99), 0);
        row(-1, -1, -1, -1);
        due("far none such", x.far(4, 0), -1);
        due("far hour", x.far(0, 100), -1);
    }

    // promise 33
    private void followed() {
        fresh(ROADS);
        due("bd", Checks.way(x, "bd", 0, 0), 13);
        row(0, 4);
        due("empty", Checks.way(x, "", 0, 7), 7);
        row();
        due("ba", Checks.way(x, "ba", 0, 5), 20);
        row(0, 5);
        due("can't", Checks.way(x, "ca", 0, 0), -101);
        due("not to oneself", Checks.way(x, "a", 0, 0), -100);
        due("not to oneself", Checks.way(x, "bb", 0, 0), -101);
        due("who is none", Checks.way(x, "e", 0, 0), -1);
        due("a wrong sign goes ahead", Checks.way(x, "dx", 0, 0), -2);
        row(0, 5);
        x.end(0);
        Checks.put(x, "x");
        due("others first", x.way(4, 0), -200);
        due("emptied", x.count(6), 0);
        due("hour 100", Checks.way(x, "b", 0, 100), -200);
        due("hour -1", Checks.way(x, "b", 0, -1), -200);
        due("-1", Checks.way(x, "b", -1, 0), -200);
        fresh("1;1;ab@9;ba@5;ab@5");
        due("first by hour", Checks.way(x, "b", 0, 0), 5);
        row(1);
    }

    // promises 34, 36, 42
    private void tales() {
        fresh(ROADS);
        due("tale", Checks.tale(x, "0123"), 4);
        due("wrong", Checks.tale(x, "01a3"), -3);
        due("as it was", x.count(3), 4);
        due("13", Checks.tale(x, "0123456789012"), -13);
        due("wrong ahead of 13", Checks.tale(x, "012345678901x"), -13);
        due("wrong ahead of 13", Checks.tale(x, "0123456789x12"), -11);
        due("12", Checks.tale(x, "012345678901"), 12);
        due("lay", x.lay(), true);
        due("laid", x.count(4), 12);
        due("the tale too", x.count(3), 12);
        due("none", Checks.tale(x, ""), 0);
        due("laid still", x.count(4), 12);
        due("lay none", x.lay(), true);
        due("laid none", x.count(4), 0);
        due("copy none", x.copy(0), -1);
        due("copy none such", x.copy(3), -1);
        x.write(0, 0, 0, 7);
        x.goes(0, 20);
        due("copy", x.copy(0), 4);
        due("count", x.count(3), 4);
        due("fits", x.fits(0, 3, 0), 1);
        row(0, 1, 3);
    }

    // promise 35
    private void checked() {
        fresh(ROADS);
        due("none such", x.check(0), -1);
        due("none such", x.check(3), -1);
        x.write(0, 0, 0, 7);
        due("one line", x.check(0), -2);
        x.goes(0, 20);
        due("all right", x.check(0), -2);
        Checks.rule(x, "n*(n<3)");
        due("the third", x.check(0), 3);
        Checks.rule(x, "n+(h=8)");
        due("the second", x.check(0), 2);
        x.move(1, 0, 9);
        due("when it was", x.check(0), 2);
        Checks.rule(x, "g+1");
        due("from whom", x.check(0), -2);
        Checks.rule(x, "i");
        due("who", x.check(0), -2);
        Checks.rule(x, "s-6-(n=3)");
        due("sum", x.check(0), -2);
        Checks.rule(x, "f-6");
        due("first", x.check(0), 2);
        Checks.rule(x, "l-6+7*(n>1)");
        due("last", x.check(0), -2);
    }

    // promises 37 .. 41, beside BruteForceTest
    private void fitting() {
        fresh(ROADS);
        due("no tale", x.fits(0, 3, 0), -2);
        due("NONE first", x.fits(0, 4, 0), -1);
        due("no tale", x.sure(0, 3, 0), -2);
        due("no tale", x.missing(0, 3, 0), -2);
        due("no tale", x.lies(0, 3, 0), -2);
        due("no tale", x.writers(3, 0), -2);
        Checks.tale(x, "712");
        due("fits", x.fits(0, 3, 0), 2);
        row(0, 4);
        due("sure", x.sure(0, 3, 0), 9);
        row(15);
        due("sure without", x.sure(0, 3, 10), 0);
        row(0);
        due("writers", x.writers(3, 0), 7);
        due("missing", x.missing(0, 3, 0), 3);
        row(14);
        due("missing without", x.missing(0, 3, 10), 0);
        row(0);
        Checks.tale(x, "799");
        due("fits none", x.fits(0, 3, 0), 0);
        row();
        due("lies", x.lies(0, 3, 0), 2);
        row(0, 4);
        due("lies without", x.lies(0, 1, 0), -3);
        row(0, 4);
        Checks.tale(x, "5");
        due("by no meeting", x.fits(2, 2, 99), 1);
        row();
        due("only to the same", x.fits(2, 1, 0), 0);
        due("sure", x.sure(2, 2, 0), 4);
        row(4);
        due("writers", x.writers(2, 50), 4);
        due("lies", x.lies(2, 2, 0), 0);
        row();
        due("lies", x.lies(2, 1, 0), -3);
        due("missing", x.missing(0, 2, 0), 1);
        row(4);
    }

    // promises 43, 44
    private void copiesAndWhen() {
        fresh(ROADS);
        due("no tale", x.when(0, 3), -2);
        due("NONE first", x.when(0, 4), -1);
        due("no tale", x.copies(0, 3, 3), -2);
        due("NONE first", x.copies(0, 3, 4), -1);
        Checks.rule(x, "i");
        Checks.tale(x, "713");
        due("none laid", x.copies(0, 3, 3), -2);
        x.lay();
        due("when", x.when(0, 3), 6);
        row(0, 5);
        due("to the same", x.copies(0, 3, 3), 6);
        Checks.tale(x, "72");
        due("when", x.when(0, 2), 10);
        row(0, 9);
        due("copies", x.copies(0, 2, 3), 6);
        row(0, 5);
        Checks.tale(x, "62");
        due("first lines unlike", x.copies(0, 2, 3), 0);
        row();
        Checks.tale(x, "7");
        due("at any hour", x.when(3, 3), 100);
        row(0, 99);
        due("not so", x.when(3, 2), 0);
        row();
        due("by no meeting", x.copies(0, 0, 3), 6);
        row(0, 5);
        Checks.tale(x, "");
        due("no tale", x.copies(0, 2, 3), -2);
    }

    // promises 45, 46
    private void answers() {
        fresh(ROADS);
        due("answer", x.answer(0, 3, 0), 20);
        row(12);
        due("like ones", x.answer(0, 0, 0), -1);
        due("none comes", x.answer(0, 3, 10), -2);
        row(12);
        due("ask", x.ask(0, 0), 1);
        row(20);
        due("ask none", x.ask(0, 21), -2);
        fresh("1;9;ab@90;ba@98;ba@99");
        due("read just in time", x.answer(0, 1, 0), 99);
        row(90);
        x.move(0, 0, 91);
        due("read too late", x.answer(0, 1, 0), -2);
        fresh("1;1;1;ab@1;ac@1;ca@5;ba@5");
        due("ask the first of equal ones", x.ask(0, 0), 1);
        row(5);
    }

    // promises 47 .. 49
    private void gossip() {
        fresh(ROADS);
        due("gossip", x.gossip(0, 0, 12), 15);
        row(12);
        due("gossip", x.gossip(0, 6, 12), 13);
        row(12);
        due("alone", x.gossip(0, 3, 4), 1);
        row(3);
        due("by before", x.gossip(0, 5, 4), -1);
        due("by 100", x.gossip(0, 5, 100), -1);
        due("hour -1", x.gossip(0, -1, 5), -1);
        due("none such", x.gossip(4, 0, 5), -1);
        due("at once", x.gossip(0, 5, 5), 3);
        row(5);
        due("postman", x.postman(0, 12), 0);
        row(4);
        due("postman by before", x.postman(5, 4), -1);
        due("postman 100", x.postman(100, 100), -1);
        due("heralds", x.heralds(0, 12), 1);
        row(1);
        due("heralds", x.heralds(0, 4), 4);
        row(15);
        due("heralds by before", x.heralds(5, 4), -1);
        fresh("1;1;1;1;cd@5;ab@5");
        due("heralds, the least", x.heralds(5, 5), 2);
        row(5);
        due("postman, the first", x.postman(5, 5), 0);
        row(2);
    }

    // promises 50, 51
    private void kept() {
        fresh(ROADS);
        due("again nothing", x.again(0), false);
        due("keep nothing", x.keep(1), true);
        due("keep 2", x.keep(2), false);
        due("keep -1", x.keep(-1), false);
        x.write(0, 0, 0, 7);
        x.goes(0, 2);
        due("keep", x.keep(0), true);
        x.write(0, 1, 1, 1);
        x.write(2, 1, 1, 1);
        due("again", x.again(0), true);
        due("letters", x.count(2), 1);
        due("lines", x.lines(0), 3);
        row(7, 1, 2);
        due("undo as kept", x.undo(0), 1);
        due("again", x.again(0), true);
        due("lines", x.lines(0), 3);
        due("again none", x.again(1), true);
        due("letters", x.count(2), 0);
        due("again -1", x.again(-1), false);
        due("again 2", x.again(2), false);
        due("the other one", x.again(0), true);
        due("since", x.of(0, 3), 8);
    }

    /** The row stays with each answer below 0, and with calls that tell none. */
    private void rowStays() {
        fresh(ROADS);
        x.far(0, 0);
        x.soonest(0, 3, 10);
        x.hands(0, 3, 10);
        x.cheapest(0, 3, 10);
        x.longest(0, 3, 10);
        x.without(0, 3, 10, 0);
        x.bargain(0, 3, 10, 99);
        x.worst(0, 3, 10);
        x.fits(0, 3, 0);
        x.sure(0, 3, 0);
        x.missing(0, 3, 0);
        x.lies(0, 3, 0);
        x.copies(0, 3, 3);
        x.when(0, 3);
        x.answer(0, 3, 10);
        x.ask(0, 21);
        x.gossip(0, 5, 4);
        x.lines(0);
        x.goes(0, 1);
        x.pairs(100);
        x.apart(0, 0, 0);
        Checks.way(x, "d", 0, 0);
        row(20, 5, 8, 12);
        x.latest(0, 3, 12);
        x.ways(0, 3, 0);
        x.needs(0, 3, 0);
        x.idle(0, 3, 0);
        x.write(0, 0, 0, 1);
        x.hand(0, 0);
        x.undo(0);
        x.of(0, 0);
        x.can(0);
        x.read(0);
        x.check(0);
        x.copy(0);
        x.writers(0, 0);
        x.lies(0, 1, 0);
        x.lay();
        x.slow(0, 2);
        x.move(0, 1, 2);
        x.sheet(3, 0, 0, 0);
        x.keep(0);
        x.again(0);
        row(20, 5, 8, 12);
    }

    private void wrongArguments() {
        fresh(ROADS);
        Checks.tale(x, "7");
        int[][] wrong = {{-1, 0, 0}, {4, 0, 0}, {0, -1, 0}, {0, 4, 0}, {0, 1, -1}, {0, 1, 100}};
        for (int[] w : wrong) {
            due("soonest", x.soonest(w[0], w[1], w[2]), -1);
            due("latest", x.latest(w[0], w[1], w[2]), -1);
            due("hands", x.hands(w[0], w[1], w[2]), -1);
            due("cheapest", x.cheapest(w[0], w[1], w[2]), -1);
            due("without", x.without(w[0], w[1], w[2], 0), -1);
            due("ways", x.ways(w[0], w[1], w[2]), -1);
            due("needs", x.needs(w[0], w[1], w[2]), -1);
            due("idle", x.idle(w[0], w[1], w[2]), -1);
            due("longest", x.longest(w[0], w[1], w[2]), -1);
            due("bargain", x.bargain(w[0], w[1], w[2], 50), -1);
            due("bargain by", x.bargain(0, 1, 0, w[2] == 0 ? -1 : w[2]), w[2] == 1 ? -2 : -1);
            due("apart", x.apart(w[0], w[1], w[2]), -1);
            due("worst", x.worst(w[0], w[1], w[2]), -1);
            due("fits", x.fits(w[0], w[1], w[2]), -1);
            due("sure", x.sure(w[0], w[1], w[2]), -1);
            due("missing", x.missing(w[0], w[1], w[2]), -1);
            due("lies", x.lies(w[0], w[1], w[2]), -1);
            due("answer", x.answer(w[0], w[1], w[2]), -1);
        }
        due("writers", x.writers(4, 0), -1);
        due("writers", x.writers(0, 100), -1);
        due("when", x.when(-1, 0), -1);
        due("when", x.when(0, 4), -1);
        due("copies", x.copies(4, 0, 0), -1);
        due("copies", x.copies(0, -1, 0), -1);
        due("copies", x.copies(0, 0, -1), -1);
        due("ask", x.ask(4, 0), -1);
        due("ask", x.ask(0, 100), -1);
    }
}
