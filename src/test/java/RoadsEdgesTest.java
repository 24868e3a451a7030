/** The edges of promises 1 to 10 and of the terms they lean on: a new object, texts, roads, rule, prices. */
public final class RoadsEdgesTest extends Edges {
    /** Nine lines of eight signs, the last with its ; behind it: 72 signs. */
    private static final String NINE_LINES = "ab@10*1;".repeat(9);

    private RoadsEdgesTest() {
        super("RoadsEdgesTest");
    }

    public static void main(String[] args) {
        new RoadsEdgesTest().runAll();
    }

    // ---- promise 1: "Nobody."

    void p01NobodyAndNothingIsThere() {
        for (int what = 0; what <= 6; what++) {
            due("count " + what, x.count(what), 0);
        }
        due("reads", x.reads(0), -1);
        due("meeting", meeting(0, 0), THROWS);
        due("read", x.read(0), -1);
        for (int letter = 0; letter < 3; letter++) {
            due("lines " + letter, x.lines(letter), -1);
        }
        due("nothing kept", x.again(0), false);
        due("nothing kept", x.again(1), false);
        row();
    }

    void p01NobodyCanBeAskedFor() {
        due("soonest", x.soonest(0, 0, 0), -1);
        due("ways", x.ways(0, 0, 0), -1);
        due("far", x.far(0, 0), -1);
        due("write", x.write(0, 0, 0, 0), false);
        due("gossip", x.gossip(0, 0, 0), -1);
        due("writers", x.writers(0, 0), -1);
        due("when", x.when(0, 0), -1);
        due("way", x.way(0, 0), -200);
        due("sheet", x.sheet(2, 20, 9, 0), 0);
        due("pairs", x.pairs(0), 0);
        row();
    }

    void p01ObjectsShareNothing() {
        fresh(ROADS);
        rule("5");
        tale("12");
        x.lay();
        x.write(0, 0, 0, 1);
        x.keep(0);
        x.far(0, 0);
        x.sign(0);
        EachAddsALine first = x;
        x = new EachAddsALine();
        p01NobodyAndNothingIsThere();
        due("the first one's people", first.count(0), 4);
        due("the first one's letters", first.count(2), 1);
    }

    // ---- promise 2: sign

    void p02FourSignsEachTime() {
        for (int k = 1; k <= 20; k++) {
            due("sign " + k, x.sign(0x31313131), 4 * k);
            due("count " + k, x.count(6), 4 * k);
        }
    }

    void p02SignsOfNumberZeroCountToo() {
        due("sign", x.sign(0), 4);
        due("a tale of it", x.tale(), -1);
    }

    void p02HighestByteFirst() {
        for (int p = 0; p < 4; p++) {
            int v = 0x31313131 & ~(255 << (24 - 8 * p)) | 'x' << (24 - 8 * p);
            x.sign(v);
            due("the sign that is none at " + p, x.tale(), -1 - p);
        }
    }

    void p02BytesAbove127AreSignsOfTheirOwn() {
        for (int p = 0; p < 4; p++) {
            x.sign(0x31313131 | 128 << (24 - 8 * p));
            due("no digit at " + p, x.tale(), -1 - p);
        }
        x.sign(-1);
        due("four of them", x.count(6), 4);
    }

    void p02SignsComeBehindTheText() {
        x.sign(0x31313131);
        x.sign(0x31783131);
        due("the wrong sign", x.tale(), -6);
        x.sign(0x31313131);
        x.end(3);
        due("behind three", x.sign(0x78313131), 7);
        due("the wrong sign", x.tale(), -4);
    }

    void p02RefusedAbove80() {
        for (int there = 77; there <= 80; there++) {
            Checks.put(x, "1".repeat(there));
            due("sign behind " + there, x.sign(0x31313131), -1);
            due("signs", x.count(6), there);
        }
    }

    void p02NotRefusedUpTo80() {
        for (int there = 73; there <= 76; there++) {
            Checks.put(x, "1".repeat(there));
            due("sign behind " + there, x.sign(0x31313131), there + 4);
        }
    }

    void p02RefusedLeavesEverySign() {
        fresh("1;1");
        Checks.put(x, NINE_LINES + "ab@1");
        x.sign(0x3b3b3b3b);
        due("80 signs", x.sign(0x31313131), -1);
        due("cut", x.end(76), true);
        due("roads", x.roads(), 10);
    }

    // ---- promise 3: end

    void p03FirstNSignsAlone() {
        Checks.put(x, "1234x");
        due("end 4", x.end(4), true);
        due("signs", x.count(6), 4);
        due("tale", x.tale(), 4);
    }

    void p03AsManyAsThereAre() {
        x.sign(0x31313131);
        due("end 4", x.end(4), true);
        due("signs", x.count(6), 4);
        due("end 0", x.end(0), true);
        due("signs", x.count(6), 0);
        due("end 0 of none", x.end(0), true);
    }

    void p03FalseIfItHasNotSoMany() {
        due("end 1 of none", x.end(1), false);
        x.sign(0x31313131);
        due("end 5", x.end(5), false);
        due("end of the most", x.end(Integer.MAX_VALUE), false);
        due("signs", x.count(6), 4);
        x.end(2);
        due("no sign comes back", x.end(3), false);
        due("signs", x.count(6), 2);
    }

    void p03FalseBelow0() {
        x.sign(0x31313131);
        for (int n : BELOW) {
            due("end " + n, x.end(n), false);
        }
        due("signs", x.count(6), 4);
    }

    // ---- promise 4: roads

    void p04AnEmptyTextTellsNothing() {
        due("none yet", roads(""), 0);
        fresh(ROADS);
        due("some there", roads(""), 0);
        due("people", x.count(0), 4);
        due("meetings", x.count(1), 6);
    }

    void p04HowManyLinesOfIt() {
        due("one of people", roads("1"), 1);
        due("two", roads("1;1"), 2);
        due("a meeting", roads("ab@1"), 1);
        due("both", roads("1;da@99*9"), 2);
    }

    void p04WhatItTellsComesBehindWhatThereIs() {
        fresh("2;3;ab@4");
        due("more", roads("9;ca@5;1;bd@6"), 4);
        int[] reads = {2, 3, 9, 1};
        for (int p = 0; p < 4; p++) {
            due("reads " + p, x.reads(p), reads[p]);
        }
        int[][] met = {{0, 1, 4}, {2, 0, 5}, {1, 3, 6}};
        for (int m = 0; m < 3; m++) {
            for (int what = 0; what < 3; what++) {
                due("meeting " + m, meeting(m, what), met[m][what]);
            }
        }
    }

    void p04MeetingsOfPeopleToldAheadInTheSameText() {
        due("told ahead", roads("1;1;ab@1"), 3);
        due("told behind", roads("1;bd@1;1"), -4);
    }

    void p04ReadsAre1To9() {
        due("1", roads("1"), 1);
        due("9", roads("9"), 1);
        due("0", roads("0"), -1);
        due("/", roads("/"), -1);
        due(":", roads(":"), -1);
        due("two digits", roads("12"), -2);
        due("people", x.count(0), 2);
    }

    void p04HoursAre0To99() {
        fresh("1;1");
        due("told", roads("ab@0;ab@00;ab@9;ab@09;ab@10;ab@99"), 6);
        int[] hours = {0, 0, 9, 9, 10, 99};
        for (int m = 0; m < 6; m++) {
            due("hour " + m, meeting(m, 2), hours[m]);
        }
        due("no digit", roads("ab@"), -4);
        due("a third digit", roads("ab@100"), -6);
        due("a third digit", roads("ab@000"), -6);
        due("below 0", roads("ab@-1"), -4);
    }

    void p04PricesAre0To9() {
        fresh("1;1");
        due("told", roads("ab@1;ab@1*0;ab@1*9;ab@11*1"), 4);
        int[] prices = {0, 0, 9, 1};
        for (int m = 0; m < 4; m++) {
            due("price " + m, meeting(m, 3), prices[m]);
        }
        due("no digit", roads("ab@1*"), -6);
        due("no digit", roads("ab@1*;1"), -6);
        due("two digits", roads("ab@1*10"), -7);
        due("two prices", roads("ab@1*1*1"), -7);
    }

    void p04ItsEndIfItEndsTooEarly() {
        fresh("1;1");
        String[] early = {"1;", "a", "ab", "ab@", "ab@1*", "ab@1;", "ab@12*", "1;1;a", "1;ac@1;c"};
        for (String signs : early) {
            due(signs, roads(signs), -1 - signs.length());
        }
        due("people", x.count(0), 2);
    }

    void p04ASignThatCantStand() {
        fresh("1;1");
        due("first", roads(" 1"), -1);
        due("between", roads("1 ;1"), -2);
        due("two ;", roads("1;;1"), -3);
        due("; alone", roads(";"), -1);
        due("behind a letter", roads("a@1"), -2);
        due("behind both", roads("ab1"), -3);
        due("behind @", roads("ab@x"), -4);
        due("behind hour", roads("ab@1x"), -5);
        due("behind price", roads("ab@1*2x"), -7);
        due("great letters", roads("AB@1"), -1);
        due("a letter and a digit", roads("a1@1"), -2);
        due("an x far on", roads("1;1;1;x"), -7);
        due("a sign above 127", roads("1\u00bb1"), -2);
    }

    void p04ALetterOfNoneThatIsThere() {
        fresh("1;1");
        due("the first", roads("ca@1"), -1);
        due("the second", roads("ac@1"), -2);
        due("in a later line", roads("ab@1;cb@1"), -6);
        due("below a", roads("`a@1"), -1);
        due("below a", roads("a`@1"), -2);
        nine();
        due("i is there", roads("ia@1"), 1);
        due("j is not", roads("ja@1"), -1);
        due("j is not", roads("aj@1"), -2);
    }

    void p04TheSameAgain() {
        fresh("1;1");
        due("aa", roads("aa@1"), -2);
        due("bb", roads("bb@1"), -2);
        due("bb later", roads("1;ab@1;bb@1"), -9);
        due("meetings", x.count(1), 0);
    }

    void p04UpToNinePeople() {
        due("nine", roads("1;2;3;4;5;6;7;8;9"), 9);
        due("the last", x.reads(8), 9);
        due("a tenth", roads("1"), -1);
        due("people", x.count(0), 9);
    }

    void p04NoRoomForATenthAtItsFirstSign() {
        due("ten at once", roads("1;1;1;1;1;1;1;1;1;1"), -19);
        due("nothing comes", x.count(0), 0);
        due("eight", roads("1;1;1;1;1;1;1;1"), 8);
        due("two more", roads("1;1"), -3);
        due("one and a meeting ahead", roads("ab@1;1;1"), -8);
        due("people", x.count(0), 8);
        due("meetings", x.count(1), 0);
        due("one more", roads("1"), 1);
    }

    private void twenty() {
        due("ten", roads("ab@1;ab@1;ab@1;ab@1;ab@1;ab@1;ab@1;ab@1;ab@1;ab@1"), 10);
        due("ten", roads("ab@1;ab@1;ab@1;ab@1;ab@1;ab@1;ab@1;ab@1;ab@1;ba@2"), 10);
    }

    void p04UpToTwentyMeetings() {
        fresh("1;1");
        twenty();
        due("the last", meeting(19, 0), 1);
        due("a 21st", roads("ab@1"), -1);
        due("one of people still", roads("1"), 1);
        due("and a 21st", roads("1;ab@1"), -3);
        due("meetings", x.count(1), 20);
        due("people", x.count(0), 3);
    }

    void p04NoRoomForA21stAtItsFirstSign() {
        fresh("1;1");
        roads("ab@1;ab@1;ab@1;ab@1;ab@1;ab@1;ab@1;ab@1;ab@1;ab@1");
        roads("ab@1;ab@1;ab@1;ab@1;ab@1;ab@1;ab@1;ab@1");
        due("three more", roads("ab@1;ab@1;ab@1"), -11);
        due("none of them", x.count(1), 18);
        due("two more", roads("ab@1;ab@1"), 2);
        due("meetings", x.count(1), 20);
    }

    void p04ATextOf76Signs() {
        fresh("1;1");
        due("76", roads(NINE_LINES + "ab@1"), 10);
        due("meetings", x.count(1), 10);
    }

    void p04MoreThan76WhereTheFirst76CouldEnd() {
        fresh("1;1");
        due("behind an hour", roads(NINE_LINES + "ab@1;"), -77);
        due("with a second digit", roads(NINE_LINES + "ab@12"), -77);
        due("with a wrong sign", roads(NINE_LINES + "ab@1x"), -77);
        due("80 signs", roads(NINE_LINES + "ab@1;1;1"), -77);
        due("nothing comes", x.count(0) + x.count(1), 2);
    }

    /** Whole lines of two people and meetings of both, so many signs with the ; behind each. */
    private static String lines(int signs) {
        String[] odd = {"", "ab@1;1;1;", "1;", "ab@11;ab@1;", "1;1;", "ab@1;", "ab@11;", "ab@1;1;"};
        String rest = odd[signs % 8];
        return rest + "ab@10*1;".repeat((signs - rest.length()) / 8);
    }

    void p04MoreThan76WhereTheFirst76CouldGoOn() {
        String[] ends = {"1;", "a", "ab", "ab@", "ab@1*", "ab@1;", "b", "ba@", "ba@99*"};
        for (String end : ends) {
            fresh("1;1");
            String first = lines(76 - end.length()) + end;
            due("length of it", first.length(), 76);
            due("a right sign behind " + end, roads(first + "1"), -77);
            due("a wrong sign behind " + end, roads(first + "x"), -77);
            due("four signs behind " + end, roads(first + "b@1;"), -77);
            due("nothing comes", x.count(0) + x.count(1), 2);
        }
    }

    void p04TextsOf76ThatEndTooEarly() {
        String[] ends = {"1;", "a", "ab", "ab@", "ab@1*", "ab@1;"};
        for (String end : ends) {
            fresh("1;1");
            due("76 with " + end, roads(lines(76 - end.length()) + end), -77);
            due("75 with " + end, roads(lines(75 - end.length()) + end), -76);
            due("nothing comes", x.count(0) + x.count(1), 2);
        }
    }

    void p04TextsOf76ThatEndAtEachLine() {
        String[] ends = {"1", "ab@1", "ab@12", "ab@1*2", "ab@12*3"};
        for (String end : ends) {
            fresh("1;1");
            String first = lines(76 - end.length()) + end;
            int told = first.length() - first.replace(";", "").length() + 1;
            due("one more behind " + end, roads(first + ";"), -77);
            due("76 with " + end, roads(first), told);
            due("all of them", x.count(0) + x.count(1), 2 + told);
        }
    }

    void p04AWrongSignAheadOf76GoesFirst() {
        fresh("1;1");
        due("the 76th", roads(NINE_LINES + "ab@xxxxx"), -76);
        due("the 75th", roads(NINE_LINES + "abx1;1;1"), -75);
        due("the first", roads("x" + NINE_LINES), -1);
        nine();
        due("no room ahead", roads(NINE_LINES + "ab@1;1;1"), -77);
        due("no room ahead", roads("1;" + NINE_LINES + "ab@1"), -1);
    }

    void p04NothingOfItComesIfOneCant() {
        fresh("1;1;ab@5*5");
        due("wrong at the end", roads("9;9;ab@7*7;ab@8*8;x"), -19);
        due("people", x.count(0), 2);
        due("meetings", x.count(1), 1);
        due("reads", x.reads(2), -1);
        due("meeting", meeting(1, 2), THROWS);
        due("soonest as ahead", x.soonest(0, 1, 0), 5);
        due("told anew", roads("2;ab@6"), 2);
        due("reads", x.reads(2), 2);
        due("hour", meeting(1, 2), 6);
        due("price", meeting(1, 3), 0);
    }

    void p04TheTextIsEmptiedWhateverItAnswers() {
        roads("1;1");
        due("signs", x.count(6), 0);
        roads("1;1;x");
        due("signs", x.count(6), 0);
        roads("1".repeat(80));
        due("signs", x.count(6), 0);
    }

    // ---- promise 5: rule

    /** The line that b adds to a letter of a with the first line 9, at hour 20, by a rule. */
    private void value(String signs, int want) {
        fresh("1;1;ab@20");
        x.write(0, 0, 0, 9);
        due(signs, rule(signs), 0);
        due("line by " + signs, x.hand(0, 0), want);
    }

    private void fault(String signs, int place) {
        fresh("1;1;ab@20");
        x.write(0, 0, 0, 9);
        rule("7");
        due(signs, rule(signs), -1 - place);
        due("signs behind " + signs, x.count(6), 0);
        due("the rule as ahead of " + signs, x.hand(0, 0), 7);
    }

    void p05AnEmptyTextIsNone() {
        value("", 1);
        rule("7");
        due("none again", rule(""), 0);
        x.undo(0);
        due("n", x.hand(0, 0), 1);
    }

    void p05AtFirstNone() {
        fresh("1;1;ab@20;ab@30");
        x.write(0, 0, 0, 9);
        due("n", x.hand(0, 0), 1);
        due("n", x.hand(0, 1), 2);
    }

    void p05ATextOf40Signs() {
        value("1" + "+1".repeat(19) + "0", 9);
        value("-".repeat(39) + "l", 1);
        value("-".repeat(38) + "l", 9);
        value("-".repeat(37) + "999", 1);
    }

    void p05MoreThan40WhereTheFirst40CouldEnd() {
        fault("1" + "+1".repeat(19) + "1+1", 40);
        fault("1" + "+1".repeat(19) + "1x", 40);
        fault("-".repeat(39) + "l" + "x", 40);
        fault("-".repeat(39) + "l" + ")", 40);
    }

    void p05MoreThan40WhereTheFirst40CouldGoOn() {
        fault("1" + "+1".repeat(19) + "+1", 40);
        fault("1" + "+1".repeat(19) + "+x", 40);
        fault("-".repeat(41), 40);
        fault("(".repeat(4) + "-".repeat(35) + "l))))", 40);
    }

    void p05TextsOf40ThatEndTooEarly() {
        fault("1" + "+1".repeat(19) + "+", 40);
        fault("-".repeat(40), 40);
        fault("(" + "-".repeat(38) + "l", 40);
    }

    void p05AWrongSignAheadOf40GoesFirst() {
        fault("1" + "+1".repeat(19) + "xx", 39);
        fault("1" + "+1".repeat(18) + "+x111", 38);
        fault("x" + "+1".repeat(30), 0);
    }

    void p05ItsEndIfItEndsTooEarly() {
        String[] early = {"1+", "1-", "1*", "1/", "1<", "1>", "1=", "-", "--", "(", "(1", "(1+", "((1)", "1<("};
        for (String signs : early) {
            fault(signs, signs.length());
        }
    }

    void p05ASignThatCantStand() {
        fault("+1", 0);
        fault("*1", 0);
        fault("<1", 0);
        fault(")", 0);
        fault("1)", 1);
        fault("()", 1);
        fault("1 ", 1);
        fault("a", 0);
        fault("1n", 1);
        fault("n1", 1);
        fault("nn", 1);
        fault("1(1)", 1);
        fault("(1)1", 3);
        fault("(1)(1)", 3);
        fault("1+*1", 2);
        fault("1*/1", 2);
        fault("N", 0);
        fault("n\u00bd", 1);
    }

    void p05ComparedOnceAndNotOneBehindTheOther() {
        fault("1<1<1", 3);
        fault("1=1>1", 3);
        fault("(1>1=1)", 4);
        fault("1<<1", 2);
        fault("1<=1", 2);
        value("(1<2)<(1<3)", 0);
        value("(1<2)=(1<3)", 1);
    }

    void p05ComparisonsAre1Or0() {
        value("l<9", 0);
        value("l<10", 1);
        value("l>9", 0);
        value("l>8", 1);
        value("l=9", 1);
        value("l=8", 0);
        value("-1<0", 1);
    }

    void p05WhatBindsLess() {
        value("1+1<1+2", 1);
        value("3<2+2", 1);
        value("1+2*3", 7);
        value("2*3+1", 7);
        value("9-6/3", 7);
        value("-2*3+9", 3);
        value("(1+2)*3", 9);
        value("1+(3<2)", 1);
    }

    void p05FromTheLeft() {
        value("9-3-2", 4);
        value("9-3+2", 8);
        value("8/4/2", 1);
        value("7/2*2", 6);
        value("2*7/4", 3);
    }

    void p05By0Is0() {
        value("9/0", 0);
        value("0/0", 0);
        value("-9/0+3", 3);
        value("9/(l-9)", 0);
    }

    void p05CutTo0() {
        value("7/2", 3);
        value("9+-7/2", 6);
        value("9+7/-2", 6);
        value("9+-1/2", 9);
        value("-7/-2", 3);
    }

    void p05MinusAnyMany() {
        value("-3", 7);
        value("--3", 3);
        value("---3", 7);
        value("9--3", 2);
        value("9---3", 6);
        value("-(3)", 7);
        value("-l", 1);
        value("2*-3", 4);
    }

    void p05NumbersOf1To3Digits() {
        value("0", 0);
        value("000", 0);
        value("007", 7);
        value("999/111", 9);
        value("100/99+1", 2);
        fault("1000", 3);
        fault("0000", 3);
        fault("l+1234", 5);
    }

    void p05FourInOneAnother() {
        value("((((l))))", 9);
        value("((((l))))+((((l))))", 8);
        value("(1)+(2)+(3)+(4)+(5)+(6)", 1);
        value("(((1)+((2))))", 3);
        fault("(((((l)))))", 4);
        fault("((((l+(1)))))", 6);
        fault("((((1))))+(((((1)))))", 14);
    }

    void p05WhatOfWhoAddsTheLine() {
        fresh("1;1;1;1;1;1;1;1;1;ba@7;ai@15;ih@99");
        x.write(0, 1, 0, 8);
        rule("6");
        x.hand(0, 0);
        rule("3");
        x.hand(0, 1);
        String[] things = {"i", "g", "h-90", "n", "f", "l", "s-10"};
        int[] values = {7, 8, 9, 3, 8, 3, 7};
        for (int k = 0; k < 7; k++) {
            due(things[k], rule(things[k]), 0);
            due("line by " + things[k], x.hand(0, 2), values[k]);
            x.undo(0);
        }
    }

    void p05WithOneLineAhead() {
        value("i", 1);
        value("g", 0);
        value("h/2", 0);
        value("n", 1);
        value("f", 9);
        value("l", 9);
        value("s", 9);
    }

    void p05LessTheGreatestTenTimesNotAboveIt() {
        value("9", 9);
        value("10", 0);
        value("999", 9);
        value("-1", 9);
        value("-9", 1);
        value("-10", 0);
        value("-11", 9);
    }

    void p05AsInts() {
        value("999*999*999*999", Math.floorMod(999 * 999 * 999 * 999, 10));
        value("512*512*512*16", 2);
        value("512*512*512*16-1", 7);
        value("512*512*512*16/-1", 2);
        value("-(512*512*512*16)", 2);
        value("512*512*512*16<0", 1);
    }

    // ---- promise 6: reads

    void p06NoneSuch() {
        fresh("3;4");
        due("the first", x.reads(0), 3);
        due("the last", x.reads(1), 4);
        due("beyond", x.reads(2), -1);
        due("far beyond", x.reads(9), -1);
        due("farthest", x.reads(Integer.MAX_VALUE), -1);
        for (int p : BELOW) {
            due("" + p, x.reads(p), -1);
        }
    }

    // ---- promise 7: meeting

    void p07NoneSuchThrows() {
        fresh("1;1;ab@5*3");
        for (int what = 0; what < 4; what++) {
            due("the one", meeting(0, what), new int[] {0, 1, 5, 3}[what]);
            due("beyond", meeting(1, what), THROWS);
            due("far beyond", meeting(20, what), THROWS);
            due("farthest", meeting(Integer.MAX_VALUE, what), THROWS);
            due("-1", meeting(-1, what), THROWS);
            due("farthest below", meeting(Integer.MIN_VALUE, what), THROWS);
        }
    }

    void p07AnotherWhatThrows() {
        fresh("1;1;ab@5*3");
        for (int what : new int[] {-1, 4, 5, Integer.MIN_VALUE, Integer.MAX_VALUE}) {
            due("what " + what, meeting(0, what), THROWS);
        }
    }

    void p07TheFirstOfBothIsTheFirstTold() {
        fresh("1;1;1;ca@1;bc@2");
        due("first", meeting(0, 0), 2);
        due("other", meeting(0, 1), 0);
        due("first", meeting(1, 0), 1);
        due("other", meeting(1, 1), 2);
    }

    // ---- promise 8: slow

    void p08From1To9() {
        fresh("3;4");
        due("1", x.slow(0, 1), 3);
        due("9", x.slow(0, 9), 1);
        due("what it was", x.slow(0, 5), 9);
        due("the other one", x.reads(1), 4);
    }

    void p08RefusedOtherValues() {
        fresh("3;4");
        for (int v : new int[] {0, 10, -1, Integer.MIN_VALUE, Integer.MAX_VALUE}) {
            due("v " + v, x.slow(0, v), -1);
        }
        due("reads", x.reads(0), 3);
    }

    void p08RefusedNoneSuch() {
        fresh("3;4");
        for (int p : new int[] {2, 9, -1, Integer.MIN_VALUE, Integer.MAX_VALUE}) {
            due("one " + p, x.slow(p, 5), -1);
        }
        due("reads", x.reads(0), 3);
        due("reads", x.reads(1), 4);
        roads("2");
        due("who comes then", x.reads(2), 2);
    }

    // ---- promise 9: move

    void p09HoursFrom0To99() {
        fresh("1;1;ab@50*5");
        due("0", x.move(0, 0, 0), 50);
        due("99", x.move(0, 0, 99), 0);
        due("what it was", x.move(0, 0, 7), 99);
        for (int v : new int[] {-1, 100, Integer.MIN_VALUE, Integer.MAX_VALUE}) {
            due("hour " + v, x.move(0, 0, v), -1);
        }
        due("hour", meeting(0, 2), 7);
        due("price", meeting(0, 3), 5);
    }

    void p09PricesFrom0To9() {
        fresh("1;1;ab@50*5");
        due("0", x.move(0, 1, 0), 5);
        due("9", x.move(0, 1, 9), 0);
        due("what it was", x.move(0, 1, 4), 9);
        for (int v : new int[] {-1, 10, Integer.MIN_VALUE, Integer.MAX_VALUE}) {
            due("price " + v, x.move(0, 1, v), -1);
        }
        due("price", meeting(0, 3), 4);
        due("hour", meeting(0, 2), 50);
    }

    void p09AnotherWhatRefused() {
        fresh("1;1;ab@50*5");
        for (int what : new int[] {-1, 2, 3, Integer.MIN_VALUE, Integer.MAX_VALUE}) {
            due("what " + what, x.move(0, what, 1), -1);
        }
        due("hour", meeting(0, 2), 50);
        due("price", meeting(0, 3), 5);
    }

    void p09NoneSuchRefused() {
        fresh("1;1;ab@50*5");
        for (int m : new int[] {1, 20, -1, Integer.MIN_VALUE, Integer.MAX_VALUE}) {
            due("hour of " + m, x.move(m, 0, 1), -1);
            due("price of " + m, x.move(m, 1, 1), -1);
        }
        due("hour", meeting(0, 2), 50);
        due("price", meeting(0, 3), 5);
    }

    // ---- promise 10: sheet

    private void prices(int... want) {
        for (int m = 0; m < want.length; m++) {
            due("price " + m, meeting(m, 3), want[m]);
        }
    }

    private void three() {
        fresh("1;1;ab@1*1;ab@2*2;ab@3*3");
    }

    void p10BytesHaveTheLowest8BitsWithTheirSign() {
        three();
        due("127, 128, 129", x.sheet(0, 3, 127, 1), 9);
        prices(9, 0, 0);
        due("255, 256, 257", x.sheet(0, 3, 255, 1), 1);
        prices(0, 0, 1);
        due("-247, -248, -249", x.sheet(0, 3, -247, -1), 24);
        prices(9, 8, 7);
        due("264, 520, 776", x.sheet(0, 3, 264, 256), 24);
        prices(8, 8, 8);
    }

    void p10ShortsHaveTheLowest16BitsWithTheirSign() {
        three();
        due("32767, 32768, 32769", x.sheet(1, 3, 32767, 1), 9);
        prices(9, 0, 0);
        due("65535, 65536, 65537", x.sheet(1, 3, 65535, 1), 1);
        prices(0, 0, 1);
        due("128, 256, 384", x.sheet(1, 3, 128, 128), 27);
        prices(9, 9, 9);
    }

    void p10IntsHaveAllBitsAndWrap() {
        three();
        due("65537, 65538, 65539", x.sheet(2, 3, 65537, 1), 27);
        prices(9, 9, 9);
        due("the greatest and behind it", x.sheet(2, 3, Integer.MAX_VALUE, 1), 9);
        prices(9, 0, 0);
        due("the least and ahead of it", x.sheet(2, 3, Integer.MIN_VALUE, -1), 18);
        prices(0, 9, 9);
        due("twice around", x.sheet(2, 3, Integer.MAX_VALUE, Integer.MAX_VALUE), 18);
        prices(9, 0, 9);
    }

    void p10PutTo0To9() {
        three();
        due("-1, 0, 1", x.sheet(2, 3, -1, 1), 1);
        prices(0, 0, 1);
        due("8, 9, 10", x.sheet(2, 3, 8, 1), 26);
        prices(8, 9, 9);
    }

    void p10ThoseBehindItHave0() {
        three();
        due("two", x.sheet(2, 2, 4, 1), 9);
        prices(4, 5, 0);
        due("one", x.sheet(0, 1, 4, 1), 4);
        prices(4, 0, 0);
        three();
        due("none", x.sheet(1, 0, 4, 1), 0);
        prices(0, 0, 0);
    }

    void p10EntriesBeyondThemAreLeftAside() {
        three();
        due("four", x.sheet(2, 4, 1, 1), 6);
        prices(1, 2, 3);
        due("twenty", x.sheet(2, 20, 2, 1), 9);
        prices(2, 3, 4);
        due("meetings", x.count(1), 3);
        roads("ab@1");
        due("one that comes then", meeting(3, 3), 0);
    }

    void p10AllTwenty() {
        fresh("1;1");
        twenty();
        due("twenty", x.sheet(2, 20, 1, 0), 20);
        due("the last", meeting(19, 3), 1);
        due("nineteen", x.sheet(2, 19, 1, 0), 19);
        due("the last", meeting(19, 3), 0);
    }

    void p10NBelow0ChangesNothing() {
        three();
        for (int kind = 0; kind <= 2; kind++) {
            due("-1 of kind " + kind, x.sheet(kind, -1, 4, 1), -2);
            due("least of kind " + kind, x.sheet(kind, Integer.MIN_VALUE, 4, 1), -2);
        }
        prices(1, 2, 3);
    }

    void p10AMissingOneLeavesAll0() {
        three();
        due("missing", x.sheet(3, 3, 4, 1), -3);
        prices(0, 0, 0);
        three();
        due("missing, n below 0", x.sheet(3, -1, 4, 1), -3);
        prices(0, 0, 0);
        three();
        due("missing, n 20", x.sheet(3, 20, 4, 1), -3);
        prices(0, 0, 0);
    }

    void p10AnotherKindFirst() {
        three();
        for (int kind : new int[] {-1, 4, Integer.MIN_VALUE, Integer.MAX_VALUE}) {
            due("kind " + kind, x.sheet(kind, 3, 4, 1), -1);
            due("kind " + kind + ", n below 0", x.sheet(kind, -1, 4, 1), -1);
            due("kind " + kind + ", n 21", x.sheet(kind, 21, 4, 1), -1);
        }
        prices(1, 2, 3);
    }

    void p10NAbove20First() {
        three();
        for (int kind = 0; kind <= 3; kind++) {
            due("21 of kind " + kind, x.sheet(kind, 21, 4, 1), -1);
            due("most of kind " + kind, x.sheet(kind, Integer.MAX_VALUE, 4, 1), -1);
        }
        prices(1, 2, 3);
    }

    void p10TheRowStays() {
        three();
        markRow();
        x.sheet(2, 3, 1, 1);
        x.sheet(3, 0, 0, 0);
        x.sheet(0, -1, 0, 0);
        rowStays();
    }
}
