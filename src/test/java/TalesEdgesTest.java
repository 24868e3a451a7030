/** The edges of promises 34 to 44: tales, and what their lines show. */
public final class TalesEdgesTest extends Edges {
    private static final int[][] NO_TRIPS = {
        {4, 0, 0}, {9, 0, 0}, {-1, 0, 0}, {Integer.MIN_VALUE, 0, 0}, {Integer.MAX_VALUE, 0, 0},
        {0, 4, 0}, {0, 9, 0}, {0, -1, 0}, {0, Integer.MIN_VALUE, 0}, {0, Integer.MAX_VALUE, 0},
        {0, 1, 100}, {0, 1, -1}, {0, 1, Integer.MIN_VALUE}, {0, 1, Integer.MAX_VALUE}};

    private static final int[] NO_LETTERS = {1, 2, 3, -1, Integer.MIN_VALUE, Integer.MAX_VALUE};

    private TalesEdgesTest() {
        super("TalesEdgesTest");
    }

    public static void main(String[] args) {
        new TalesEdgesTest().runAll();
    }

    /** Two people who meet 20 times, later numbers first: at hours 40, 38, .., 2. */
    private void twentyBackwards() {
        fresh("1;1;ab@40;ab@38;ab@36;ab@34;ab@32;ab@30;ab@28;ab@26;ab@24;ab@22");
        roads("ab@20;ab@18;ab@16;ab@14;ab@12;ab@10;ab@8;ab@6;ab@4;ab@2");
    }

    /** Letter 0 of a, at hour 0, goes to and fro between two as meetings 0 and 1 are moved; so many lines then. */
    private void toAndFro(int lines) {
        fresh("1;1;ab@1;ba@2");
        x.write(0, 0, 0, 5);
        for (int k = 1; k < lines; k++) {
            x.move(k % 2, 0, k);
            x.hand(0, k % 2);
        }
    }

    // ---- promise 34: tale

    void p34AnEmptyTextIsNone() {
        fresh(ROADS);
        tale("712");
        due("none", tale(""), 0);
        due("lines", x.count(3), 0);
        due("no tale", x.fits(0, 3, 0), -2);
    }

    void p34From1To12Digits() {
        for (int lines = 1; lines <= 12; lines++) {
            due("digits", tale("0123456789".repeat(2).substring(0, lines)), lines);
            due("lines", x.count(3), lines);
        }
    }

    void p34MoreThan12() {
        fresh(ROADS);
        tale("712");
        due("13", tale("0".repeat(13)), -13);
        due("13, the last wrong", tale("0".repeat(12) + "x"), -13);
        due("80", tale("0".repeat(80)), -13);
        due("as it was", x.count(3), 3);
        due("as it was", x.fits(0, 3, 0), 2);
    }

    void p34ASignThatCantStand() {
        fresh(ROADS);
        tale("712");
        due("the first", tale("x"), -1);
        due("below 0", tale("1/"), -2);
        due("above 9", tale("11:"), -3);
        due("the twelfth", tale("0".repeat(11) + "-"), -12);
        due("the twelfth of more", tale("0".repeat(11) + "-00"), -12);
        due("a space", tale("1 1"), -2);
        due("above 127", tale("1\u00b2"), -2);
        due("as it was", x.count(3), 3);
        due("as it was", x.fits(0, 3, 0), 2);
    }

    void p34TheTextIsEmptiedWhateverItAnswers() {
        tale("1");
        due("a tale", x.count(6), 0);
        tale("1x");
        due("a wrong one", x.count(6), 0);
        tale("1".repeat(13));
        due("a long one", x.count(6), 0);
    }

    // ---- promise 35: check

    void p35NoSuchLetter() {
        fresh(ROADS);
        x.write(0, 0, 0, 7);
        for (int letter : NO_LETTERS) {
            due("letter " + letter, x.check(letter), -1);
        }
    }

    void p35None() {
        fresh(ROADS);
        x.write(0, 0, 0, 7);
        rule("3");
        due("the first line is as written", x.check(0), -2);
        rule("");
        x.goes(0, 20);
        due("all by the rule", x.check(0), -2);
    }

    void p35TheFirstFrom1On() {
        fresh(ROADS);
        x.write(0, 0, 0, 7);
        x.goes(0, 20);
        rule("n+(n=1)");
        due("1", x.check(0), 1);
        rule("n+(n>1)");
        due("2", x.check(0), 2);
        rule("n+(n>2)");
        due("3", x.check(0), 3);
        rule("n+(n>3)");
        due("none", x.check(0), -2);
    }

    void p35TheThirtieth() {
        toAndFro(30);
        due("none", x.check(0), -2);
        rule("n+(n=29)");
        due("29", x.check(0), 29);
        rule("n+(n>12)");
        due("13", x.check(0), 13);
    }

    void p35ByThoseAheadAsTheyStand() {
        fresh(ROADS);
        x.write(0, 0, 0, 7);
        x.goes(0, 20);
        rule("l+1-7*(n=1)");
        due("by the last", x.check(0), -2);
        rule("s-6-(n=3)");
        due("by their sum", x.check(0), -2);
        rule("f-7+n");
        due("by the first", x.check(0), -2);
        rule("l+1");
        due("not by the first", x.check(0), 1);
    }

    void p35WhenItWas() {
        fresh(ROADS);
        rule("h");
        x.write(0, 0, 0, 7);
        x.goes(0, 20);
        x.move(0, 0, 6);
        x.move(1, 0, 99);
        due("moved since", x.check(0), -2);
        rule("h+(h=8)");
        due("at 8", x.check(0), 2);
    }

    void p35FromWhomAndWhoGotIt() {
        fresh(ROADS);
        rule("g*3+i");
        x.write(0, 0, 0, 7);
        x.goes(0, 20);
        due("as it was", x.check(0), -2);
        rule("g*3+i+(g=1)");
        due("from b", x.check(0), 2);
        rule("g*3+i+(i=3)");
        due("to d", x.check(0), 3);
    }

    // ---- promise 36: copy

    void p36NoSuchLetter() {
        fresh(ROADS);
        tale("712");
        x.write(0, 0, 0, 7);
        for (int letter : NO_LETTERS) {
            due("letter " + letter, x.copy(letter), -1);
        }
        due("the tale as it was", x.count(3), 3);
    }

    void p36TheFirst12() {
        for (int lines : new int[] {1, 11, 12, 13, 30}) {
            toAndFro(lines);
            due("of " + lines, x.copy(0), Math.min(lines, 12));
            due("lines", x.count(3), Math.min(lines, 12));
        }
        twentyBackwards();
        x.write(0, 0, 0, 3);
        for (int m = 19; m > 4; m--) {
            x.hand(0, m);
        }
        due("16 lines", x.copy(0), 12);
        due("it came to b then", x.fits(0, 1, 20), 1);
        row(10, 9, 8, 7, 6, 5, 4, 3, 2, 1, 0);
    }

    void p36InsteadOfTheTaleThatWasTold() {
        fresh(ROADS);
        x.write(0, 0, 0, 7);
        x.goes(0, 2);
        tale("99999");
        due("three", x.copy(0), 3);
        due("lines", x.count(3), 3);
        due("came to c by b", x.fits(0, 2, 0), 1);
        row(0, 1);
        tale("012345678901");
        due("three again", x.copy(0), 3);
        due("came to c by b", x.fits(0, 2, 0), 1);
    }

    void p36NotTheLaidOne() {
        fresh(ROADS);
        x.write(0, 0, 0, 7);
        x.copy(0);
        due("tale", x.count(3), 1);
        due("laid by", x.count(4), 0);
    }

    // ---- promise 37: fits

    void p37NoTale() {
        fresh(ROADS);
        markRow();
        due("fits", x.fits(0, 3, 0), -2);
        due("fits", x.fits(0, 0, 99), -2);
        rowStays();
    }

    void p37OthersAlsoWithoutATale() {
        fresh(ROADS);
        markRow();
        for (int k = 0; k < 2; k++) {
            for (int[] t : NO_TRIPS) {
                due("fits", x.fits(t[0], t[1], t[2]), -1);
            }
            rowStays();
            tale("7");
        }
    }

    void p37OneLineAloneByNoMeetingOnlyToTheSame() {
        fresh(ROADS);
        tale("7");
        for (int hour : new int[] {0, 50, 99}) {
            markRow();
            due("to the same", x.fits(1, 1, hour), 1);
            row();
            markRow();
            due("to another one", x.fits(0, 1, hour), 0);
            row();
        }
    }

    void p37ToTheSameWithMoreLines() {
        fresh("1;1;ab@1;ba@2;ab@3");
        tale("712");
        due("back", x.fits(0, 0, 0), 3);
        row(0, 1);
        tale("71");
        due("not by one", x.fits(0, 0, 0), 0);
        row();
    }

    void p37NoneWithout() {
        fresh(ROADS);
        tale("799");
        markRow();
        due("none", x.fits(0, 3, 0), 0);
        row();
        tale("712");
        due("too late", x.fits(0, 3, 10), 0);
        row();
    }

    void p37TheLeastRow() {
        fresh("1;1;1;1;cd@9;bd@9;ac@1;ab@1;ac@2");
        tale("512");
        due("three", x.fits(0, 3, 0), 3);
        row(2, 0);
        rule("n*(i=1)+2*(i=3)");
        due("by b", x.fits(0, 3, 0), 1);
        row(3, 1);
    }

    void p37WithJustTheLines() {
        fresh("1;1;1;ab@1;bc@2;ac@3");
        tale("51");
        due("one more line", x.fits(0, 2, 0), 1);
        row(2);
        tale("512");
        due("two more", x.fits(0, 2, 0), 1);
        row(0, 1);
        tale("5123");
        due("three more", x.fits(0, 2, 0), 0);
        tale("502");
        due("a wrong one", x.fits(0, 2, 0), 0);
        tale("513");
        due("the last wrong", x.fits(0, 2, 0), 0);
    }

    void p37TwelveLines() {
        twentyBackwards();
        tale("312345678901");
        due("by eleven of twenty", x.fits(0, 1, 0), 167960);
        row(10, 9, 8, 7, 6, 5, 4, 3, 2, 1, 0);
        due("by the last eleven", x.fits(0, 1, 20), 1);
        row(10, 9, 8, 7, 6, 5, 4, 3, 2, 1, 0);
        due("ten are too few", x.fits(0, 1, 21), 0);
    }

    void p37AShorterTaleBehindALongerOne() {
        fresh("1;1;1;1;ab@1;bc@2;cd@3;da@4");
        rule("i");
        tale("5123");
        due("to d", x.fits(0, 3, 0), 1);
        due("to d", x.sure(0, 3, 0), 15);
        due("none left it out", x.missing(0, 3, 0), 0);
        tale("512");
        due("to c", x.fits(0, 2, 0), 1);
        row(0, 1);
        due("to c", x.sure(0, 2, 0), 7);
        row(7);
        due("a left it out", x.missing(0, 0, 0), 0);
        due("d left it out", x.missing(0, 3, 0), 1);
        row(8);
        tale("51");
        due("to b", x.sure(0, 1, 0), 3);
        row(3);
        due("to b", x.lies(0, 1, 0), 0);
        row(0);
        due("c left it out", x.missing(0, 2, 0), 1);
        row(4);
        tale("5");
        due("to a", x.sure(0, 0, 0), 1);
        row(1);
        due("b left it out", x.missing(0, 1, 0), 1);
        row(2);
    }

    void p37AtTheHourItIsWritten() {
        fresh("9;9;ab@50");
        tale("71");
        due("at it", x.fits(0, 1, 50), 1);
        due("behind it", x.fits(0, 1, 51), 0);
    }

    // ---- promise 38: sure

    void p38NoTale() {
        fresh(ROADS);
        markRow();
        due("sure", x.sure(0, 3, 0), -2);
        rowStays();
    }

    void p38OthersAlsoWithoutATale() {
        fresh(ROADS);
        markRow();
        for (int k = 0; k < 2; k++) {
            for (int[] t : NO_TRIPS) {
                due("sure", x.sure(t[0], t[1], t[2]), -1);
            }
            rowStays();
            tale("7");
        }
    }

    void p38ZeroWithoutAny() {
        fresh(ROADS);
        tale("799");
        due("sure", x.sure(0, 3, 0), 0);
        row(0);
        tale("7");
        due("one line, to another one", x.sure(0, 3, 0), 0);
        row(0);
    }

    void p38WhoWroteItCounts() {
        fresh(ROADS);
        tale("7");
        due("alone", x.sure(2, 2, 0), 4);
        row(4);
        tale("71");
        due("and who it is for", x.sure(2, 1, 0), 6);
        row(6);
    }

    void p38InEachAndInSome() {
        fresh("1;1;1;1;1;ab@1;bd@3;ac@1;cd@3;de@5");
        tale("5123");
        due("not b, c", x.sure(0, 4, 0), 25);
        row(31);
        x.move(2, 0, 0);
        due("b too", x.sure(0, 4, 1), 27);
        row(27);
    }

    // ---- promise 39: writers

    void p39NoTale() {
        fresh(ROADS);
        due("writers", x.writers(3, 0), -2);
    }

    void p39OthersAlsoWithoutATale() {
        fresh(ROADS);
        for (int k = 0; k < 2; k++) {
            for (int to : new int[] {4, 9, -1, Integer.MIN_VALUE, Integer.MAX_VALUE}) {
                due("to " + to, x.writers(to, 0), -1);
            }
            for (int hour : new int[] {100, -1, Integer.MIN_VALUE, Integer.MAX_VALUE}) {
                due("at " + hour, x.writers(0, hour), -1);
            }
            tale("7");
        }
    }

    void p39OneLineAloneWasWrittenByTheSame() {
        fresh(ROADS);
        tale("7");
        for (int to = 0; to < 4; to++) {
            due("to " + to, x.writers(to, 99), 1 << to);
        }
    }

    void p39Nobody() {
        fresh(ROADS);
        tale("79");
        due("a false line", x.writers(3, 0), 0);
        tale("71");
        due("too late", x.writers(3, 14), 0);
        due("at the last hour", x.writers(3, 13), 2);
        due("both", x.writers(3, 12), 6);
    }

    void p39TheSameToo() {
        fresh("1;1;1;ab@1;ba@2;cb@1");
        tale("712");
        due("back to a, or from c", x.writers(0, 0), 5);
    }

    // ---- promise 40: missing

    void p40NoTale() {
        fresh(ROADS);
        markRow();
        due("missing", x.missing(0, 3, 0), -2);
        rowStays();
    }

    void p40OthersAlsoWithoutATale() {
        fresh(ROADS);
        markRow();
        for (int k = 0; k < 2; k++) {
            for (int[] t : NO_TRIPS) {
                due("missing", x.missing(t[0], t[1], t[2]), -1);
            }
            rowStays();
            tale("7");
        }
    }

    void p40OneLineAlone() {
        fresh("1;1;1;ab@1;ab@2;bc@3");
        tale("5");
        due("who got it left it out", x.missing(0, 1, 0), 2);
        row(2);
        due("not two of them", x.missing(0, 2, 0), 0);
        row(0);
        due("by at least one meeting", x.missing(0, 0, 0), 0);
        row(0);
    }

    void p40JustOne() {
        fresh("1;1;1;1;ab@1;bc@2;cd@3");
        tale("5123");
        due("none left it out", x.missing(0, 3, 0), 0);
        row(0);
        tale("512");
        due("one of three", x.missing(0, 3, 0), 3);
        row(14);
        tale("51");
        due("two did", x.missing(0, 3, 0), 0);
        row(0);
    }

    void p40OnceForEachPlace() {
        fresh("1;1;1;1;ab@1;bc@2;cd@3;ba@5;ab@7");
        rule("0");
        tale("500");
        due("three places of one way, and of to and fro", x.missing(0, 3, 0), 3);
        row(14);
        tale("50");
        due("two places", x.missing(0, 2, 0), 2);
        row(6);
        due("two places of three ways", x.missing(0, 0, 0), 6);
        row(3);
    }

    void p40TheOthersReadWhatIsThere() {
        fresh("1;1;1;1;ab@1;bc@2;cd@3");
        rule("l+i");
        tale("523");
        due("not with any two of three", x.missing(0, 3, 0), 0);
        tale("570");
        due("b", x.missing(0, 3, 0), 1);
        row(2);
        tale("569");
        due("c", x.missing(0, 3, 0), 1);
        row(4);
        tale("568");
        due("d", x.missing(0, 3, 0), 1);
        row(8);
    }

    void p40TwelveLines() {
        twentyBackwards();
        rule("0");
        tale("300000000000");
        due("twelve places by twelve of twenty", x.missing(0, 0, 0), 12L * 125970);
        row(3);
        due("by the last twelve", x.missing(0, 0, 18), 12);
        due("eleven are too few", x.missing(0, 0, 19), 0);
        row(0);
    }

    // ---- promise 41: lies

    void p41NoTale() {
        fresh(ROADS);
        markRow();
        due("lies", x.lies(0, 3, 0), -2);
        due("also without a way", x.lies(0, 3, 99), -2);
        rowStays();
    }

    void p41OthersAlsoWithoutATale() {
        fresh(ROADS);
        markRow();
        for (int k = 0; k < 2; k++) {
            for (int[] t : NO_TRIPS) {
                due("lies", x.lies(t[0], t[1], t[2]), -1);
            }
            rowStays();
            tale("71");
        }
    }

    void p41NoWayWithSoManyMeetings() {
        fresh(ROADS);
        markRow();
        tale("71");
        due("two at least", x.lies(0, 3, 0), -3);
        tale("71234");
        due("three at most", x.lies(0, 3, 0), -3);
        tale("712");
        due("too late", x.lies(0, 3, 10), -3);
        tale("7");
        due("by none to another one", x.lies(0, 3, 0), -3);
        rowStays();
    }

    void p41OneLineAlone() {
        fresh(ROADS);
        tale("7");
        markRow();
        due("none is false", x.lies(3, 3, 99), 0);
        row();
    }

    void p41NoneAndAll() {
        fresh(ROADS);
        tale("7123");
        due("none", x.lies(0, 3, 0), 0);
        row(0, 1, 3);
        tale("7023");
        due("one", x.lies(0, 3, 0), 1);
        tale("7024");
        due("two", x.lies(0, 3, 0), 2);
        tale("7000");
        due("all but the first", x.lies(0, 3, 0), 3);
        row(0, 1, 3);
    }

    void p41ByThoseAheadAsTheyAreTold() {
        fresh("1;1;1;1;ab@1;bc@2;cd@3");
        rule("l+1");
        tale("5678");
        due("none", x.lies(0, 3, 0), 0);
        tale("5478");
        due("one false line does not spoil the next two", x.lies(0, 3, 0), 2);
        tale("5456");
        due("the first alone", x.lies(0, 3, 0), 1);
        rule("f+n");
        tale("5078");
        due("the first alone", x.lies(0, 3, 0), 1);
    }

    void p41TheLeastRowOfAsFew() {
        fresh("1;1;1;1;cd@9;bd@9;ac@1;ab@1");
        tale("599");
        due("two", x.lies(0, 3, 0), 2);
        row(2, 0);
        rule("9*(i=1)");
        due("by b one", x.lies(0, 3, 0), 1);
        row(3, 1);
    }

    void p41TwelveLines() {
        twentyBackwards();
        tale("312345678900");
        due("one", x.lies(0, 1, 0), 1);
        row(10, 9, 8, 7, 6, 5, 4, 3, 2, 1, 0);
        tale("399999999999");
        due("all but one", x.lies(0, 1, 0), 10);
        due("too few", x.lies(0, 1, 21), -3);
    }

    // ---- promise 42: lay

    void p42AnEmptyOneIsNone() {
        due("lay", x.lay(), true);
        due("none", x.count(4), 0);
        tale("123");
        x.lay();
        due("three", x.count(4), 3);
        tale("");
        due("three still", x.count(4), 3);
        due("lay", x.lay(), true);
        due("none", x.count(4), 0);
    }

    void p42TheTaleIsStillThere() {
        tale("012345678901");
        due("lay", x.lay(), true);
        due("tale", x.count(3), 12);
        due("laid", x.count(4), 12);
        tale("1");
        due("tale", x.count(3), 1);
        due("laid", x.count(4), 12);
    }

    // ---- promise 43: copies

    void p43NoTaleOrNoneLaidBy() {
        fresh(ROADS);
        markRow();
        due("neither", x.copies(0, 3, 2), -2);
        tale("712");
        due("none laid by", x.copies(0, 3, 2), -2);
        x.lay();
        tale("");
        due("no tale", x.copies(0, 3, 2), -2);
        rowStays();
    }

    void p43NoneSuchAlsoWithoutATale() {
        fresh(ROADS);
        markRow();
        for (int k = 0; k < 2; k++) {
            for (int p : new int[] {4, 9, -1, Integer.MIN_VALUE, Integer.MAX_VALUE}) {
                due("from " + p, x.copies(p, 0, 0), -1);
                due("to " + p, x.copies(0, p, 0), -1);
                due("and to " + p, x.copies(0, 0, p), -1);
            }
            rowStays();
            tale("7");
            x.lay();
        }
    }

    private void copies(String told, String laidBy) {
        tale(laidBy);
        x.lay();
        tale(told);
    }

    void p43FirstLinesAlike() {
        fresh(ROADS);
        copies("712", "71");
        due("alike", x.copies(0, 3, 1), 10);
        row(0, 9);
        copies("612", "71");
        markRow();
        due("unlike", x.copies(0, 3, 1), 0);
        row();
    }

    void p43NoneWithout() {
        fresh(ROADS);
        copies("712", "72");
        markRow();
        due("the laid one can't", x.copies(0, 3, 1), 0);
        row();
        copies("72", "712");
        markRow();
        due("the tale can't", x.copies(0, 1, 3), 0);
        row();
    }

    void p43TheLastHourOfBoth() {
        fresh("1;1;1;ab@0;ab@40;ac@60;ac@99");
        copies("71", "71");
        due("b sooner", x.copies(0, 1, 2), 41);
        row(0, 40);
        due("c sooner", x.copies(0, 2, 1), 41);
        row(0, 40);
        x.move(1, 0, 99);
        due("all hours", x.copies(0, 1, 2), 100);
        row(0, 99);
        x.move(1, 0, 0);
        due("hour 0 alone", x.copies(0, 1, 2), 1);
        row(0, 0);
    }

    // ---- promise 44: when

    void p44NoTale() {
        fresh(ROADS);
        markRow();
        due("when", x.when(0, 3), -2);
        rowStays();
    }

    void p44NoneSuchAlsoWithoutATale() {
        fresh(ROADS);
        markRow();
        for (int k = 0; k < 2; k++) {
            for (int p : new int[] {4, 9, -1, Integer.MIN_VALUE, Integer.MAX_VALUE}) {
                due("from " + p, x.when(p, 0), -1);
                due("to " + p, x.when(0, p), -1);
            }
            rowStays();
            tale("7");
        }
    }

    void p44NoneWithout() {
        fresh(ROADS);
        tale("79");
        markRow();
        due("a false line", x.when(0, 1), 0);
        row();
        tale("7");
        markRow();
        due("one line, to another one", x.when(0, 1), 0);
        row();
    }

    void p44Hours0To99() {
        fresh("1;1;ab@0");
        tale("71");
        due("hour 0 alone", x.when(0, 1), 1);
        row(0, 0);
        x.move(0, 0, 98);
        due("but the last", x.when(0, 1), 99);
        row(0, 98);
        x.move(0, 0, 99);
        due("all", x.when(0, 1), 100);
        row(0, 99);
        tale("7");
        due("by no meeting", x.when(0, 0), 100);
        row(0, 99);
    }

    void p44TheLastOfAllWays() {
        fresh("1;1;1;ab@5;ab@9;bc@10;ac@50");
        tale("712");
        due("by b", x.when(0, 2), 10);
        row(0, 9);
        x.slow(1, 2);
        due("by b in time", x.when(0, 2), 6);
        row(0, 5);
    }
}
