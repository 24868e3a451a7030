/** The edges of promises 11 to 18 and 50 to 53: letters written, handed on, undone, kept; what is counted and told. */
public final class LettersEdgesTest extends Edges {
    private static final int[] NO_LETTERS = {3, 4, -1, Integer.MIN_VALUE, Integer.MAX_VALUE};

    private LettersEdgesTest() {
        super("LettersEdgesTest");
    }

    public static void main(String[] args) {
        new LettersEdgesTest().runAll();
    }

    /** What there is to see of a letter, the lines in the row. */
    private void letter(int letter, int who, int when, int holder, int since, int readers) {
        int[] want = {who, when, holder, since, readers};
        for (int what = 0; what < 5; what++) {
            due("of " + letter + ", " + what, x.of(letter, what), want[what]);
        }
    }

    /** Letter 0 of a, at hour 0, goes to and fro between two as meetings 0 and 1 are moved; so many lines then. */
    private void toAndFro(int lines) {
        fresh("1;1;ab@1;ba@2");
        x.write(0, 0, 0, 5);
        for (int k = 1; k < lines; k++) {
            x.move(k % 2, 0, k);
            due("hand " + k, x.hand(0, k % 2), k % 10);
        }
    }

    // ---- "An object is used for at most 512 calls after it has been made"

    void p01AnswersUpToThe512thCall() {
        x.sign(0x313b313b);
        x.sign(0x61624031);
        due("call 3", x.roads(), 3);
        due("call 4", x.write(0, 0, 0, 7), true);
        for (int call = 5; call < 511; call += 2) {
            due("call " + call, x.hand(0, 0), 1);
            due("call " + (call + 1), x.undo(0), 0);
        }
        due("call 511", x.hand(0, 0), 1);
        due("call 512", x.soonest(0, 1, 0), 1);
    }

    // ---- promise 11: write

    void p11LettersAre0To2() {
        fresh(ROADS);
        due("0", x.write(0, 0, 0, 0), true);
        due("2", x.write(2, 0, 0, 0), true);
        due("there", x.count(2), 5);
        for (int letter : NO_LETTERS) {
            due("letter " + letter, x.write(letter, 0, 0, 0), false);
        }
        due("there", x.count(2), 5);
        due("1", x.write(1, 0, 0, 0), true);
        due("there", x.count(2), 7);
    }

    void p11ByOneOfPeople() {
        fresh(ROADS);
        for (int person : new int[] {4, 9, -1, Integer.MIN_VALUE, Integer.MAX_VALUE}) {
            due("by " + person, x.write(0, person, 0, 0), false);
        }
        due("none", x.count(2), 0);
        due("by the last", x.write(0, 3, 0, 0), true);
        letter(0, 3, 0, 3, 0, 8);
    }

    void p11AtAnHour0To99() {
        fresh(ROADS);
        for (int hour : new int[] {100, -1, Integer.MIN_VALUE, Integer.MAX_VALUE}) {
            due("at " + hour, x.write(0, 0, hour, 0), false);
        }
        due("none", x.count(2), 0);
        due("at 0", x.write(0, 0, 0, 0), true);
        due("at 99", x.write(1, 0, 99, 0), true);
        letter(0, 0, 0, 0, 0, 1);
        letter(1, 0, 99, 0, 99, 1);
    }

    void p11WithALine0To9() {
        fresh(ROADS);
        for (int line : new int[] {10, -1, Integer.MIN_VALUE, Integer.MAX_VALUE}) {
            due("line " + line, x.write(0, 0, 0, line), false);
        }
        due("none", x.count(2), 0);
        due("0", x.write(0, 0, 0, 0), true);
        due("9", x.write(1, 0, 0, 9), true);
        x.lines(0);
        row(0);
        x.lines(1);
        row(9);
    }

    void p11WrittenAnew() {
        fresh(ROADS);
        x.write(0, 0, 0, 7);
        x.goes(0, 20);
        due("anew", x.write(0, 1, 8, 3), true);
        letter(0, 1, 8, 1, 8, 2);
        due("lines", x.lines(0), 1);
        row(3);
        due("nothing to undo", x.undo(0), -1);
        due("has it at once", x.hand(0, 1), 1);
    }

    void p11RefusedLeavesTheLetter() {
        fresh(ROADS);
        x.write(0, 0, 0, 7);
        x.goes(0, 1);
        x.write(0, 4, 0, 0);
        x.write(0, 1, 100, 0);
        x.write(0, 1, 0, 10);
        letter(0, 0, 0, 1, 5, 3);
        due("lines", x.lines(0), 2);
        row(7, 1);
    }

    // ---- promise 12: hand

    void p12NoSuchLetter() {
        fresh(ROADS);
        x.write(0, 0, 0, 7);
        due("not written", x.hand(1, 0), -1);
        for (int letter : NO_LETTERS) {
            due("letter " + letter, x.hand(letter, 0), -1);
        }
    }

    void p12NoSuchMeeting() {
        fresh(ROADS);
        x.write(0, 0, 0, 7);
        for (int m : new int[] {6, 20, -1, Integer.MIN_VALUE, Integer.MAX_VALUE}) {
            due("meeting " + m, x.hand(0, m), -1);
        }
        due("lines", x.lines(0), 1);
    }

    void p12WhoHasItIsNotThere() {
        fresh(ROADS);
        x.write(0, 0, 0, 7);
        due("who never was", x.hand(0, 1), -2);
        x.hand(0, 0);
        due("who had it is there", x.hand(0, 2), -2);
        due("neither", x.hand(0, 3), -2);
        due("lines", x.lines(0), 2);
    }

    void p12WhoWroteItHasItAtOnceAndNotAhead() {
        fresh("9;1;ab@50");
        x.write(0, 0, 50, 7);
        due("at the hour it was written", x.hand(0, 0), 1);
        x.write(0, 0, 51, 7);
        due("it came later", x.hand(0, 0), -3);
        x.write(0, 0, 99, 7);
        due("it came much later", x.hand(0, 0), -3);
        x.write(0, 0, 49, 7);
        due("later", x.hand(0, 0), 1);
    }

    void p12ReadsHoursAheadOrMore() {
        for (int reads = 1; reads <= 9; reads++) {
            fresh("1;" + reads + ";1;ab@50;bc@" + (50 + reads) + ";bc@" + (49 + reads));
            x.write(0, 0, 0, 7);
            x.hand(0, 0);
            due("not read by then", x.hand(0, 2), -3);
            due("just read", x.hand(0, 1), 2);
        }
    }

    void p12ItHadComeLater() {
        fresh("1;1;1;ab@50;bc@49;bc@50;bc@0");
        x.write(0, 0, 0, 7);
        x.hand(0, 0);
        due("an hour ahead", x.hand(0, 1), -3);
        due("the same hour", x.hand(0, 2), -3);
        due("hour 0", x.hand(0, 3), -3);
        due("lines", x.lines(0), 2);
    }

    void p12ReadsOfWhoHasItNow() {
        fresh("1;2;1;ab@50;bc@54");
        x.write(0, 0, 0, 7);
        x.hand(0, 0);
        x.slow(1, 5);
        due("slowed since", x.hand(0, 1), -3);
        x.slow(1, 4);
        due("quick enough", x.hand(0, 1), 2);
    }

    void p12WhoGetsItBackHasToReadIt() {
        fresh("3;1;ab@10;ba@20;ab@22;ab@23");
        x.write(0, 0, 0, 7);
        x.hand(0, 0);
        x.hand(0, 1);
        due("who wrote it", x.hand(0, 2), -3);
        due("has read it", x.hand(0, 3), 3);
    }

    void p12ThirtyLines() {
        toAndFro(29);
        x.move(1, 0, 29);
        x.move(0, 0, 40);
        due("the 30th", x.hand(0, 1 - 28 % 2), 9);
        due("lines", x.lines(0), 30);
        x.move(1, 0, 50);
        due("no 31st", x.hand(0, 1), -4);
        due("lines", x.lines(0), 30);
        due("taken out", x.undo(0), 28);
        x.move(1, 0, 60);
        due("room again", x.hand(0, 1), 9);
    }

    void p12ThirtyLinesOfEachLetter() {
        toAndFro(30);
        x.write(2, 0, 0, 5);
        x.move(0, 0, 50);
        x.move(1, 0, 60);
        due("letter 0 is full", x.hand(0, 0), -4);
        due("letter 2 is not", x.hand(2, 0), 1);
        due("letter 2 can go on", x.can(2), 2);
        due("letter 0 can't", x.can(0), 0);
        x.write(0, 0, 0, 5);
        x.write(2, 0, 0, 5);
        for (int k = 1; k < 30; k++) {
            x.move(k % 2, 0, k);
            due("hand " + k, x.hand(2, k % 2), k % 10);
        }
        x.move(0, 0, 60);
        due("now letter 2 is full", x.hand(2, 0), -4);
        due("letter 2 can't go on", x.can(2), 0);
        due("letter 2 does not go on", x.goes(2, 20), 0);
        due("letter 0 has room", x.hand(0, 0), 1);
    }

    void p12AskedInThisOrder() {
        fresh("1;1;1;ab@1;ba@2;ac@0;ac@60;bc@0;bc@50");
        x.write(0, 0, 0, 5);
        x.hand(0, 0);
        due("not there ahead of not read", x.hand(0, 2), -2);
        due("not read", x.hand(0, 4), -3);
        for (int k = 2; k < 30; k++) {
            x.move(k % 2 == 0 ? 1 : 0, 0, k);
            x.hand(0, k % 2 == 0 ? 1 : 0);
        }
        due("30 lines, b has it", x.of(0, 2) * 100 + x.lines(0), 130);
        due("not there ahead of all", x.hand(0, 3), -2);
        due("not there and too early", x.hand(0, 2), -2);
        due("not read ahead of 30 lines", x.hand(0, 4), -3);
        due("30 lines", x.hand(0, 5), -4);
        due("none such ahead of all", x.hand(0, 6), -1);
        due("no such letter ahead of all", x.hand(1, 2), -1);
    }

    void p12RefusedChangesNothing() {
        fresh(ROADS);
        x.write(0, 0, 0, 7);
        x.hand(0, 0);
        markRow();
        x.hand(0, 2);
        x.hand(0, 6);
        x.slow(1, 9);
        x.hand(0, 1);
        rowStays();
        letter(0, 0, 0, 1, 5, 3);
    }

    // ---- promise 13: undo

    void p13NoneSuch() {
        fresh(ROADS);
        due("not written", x.undo(0), -1);
        x.write(0, 0, 0, 7);
        x.hand(0, 0);
        due("another one", x.undo(1), -1);
        for (int letter : NO_LETTERS) {
            due("letter " + letter, x.undo(letter), -1);
        }
        due("lines", x.lines(0), 2);
    }

    void p13None() {
        fresh(ROADS);
        x.write(0, 0, 3, 7);
        due("the first line stays", x.undo(0), -1);
        due("lines", x.lines(0), 1);
        x.hand(0, 0);
        due("one", x.undo(0), 0);
        due("none", x.undo(0), -1);
        letter(0, 0, 3, 0, 3, 1);
    }

    void p13HowManyAreLeft() {
        toAndFro(30);
        for (int left = 28; left >= 0; left--) {
            due("undo", x.undo(0), left);
            due("lines", x.lines(0), left + 1);
        }
        due("none", x.undo(0), -1);
    }

    void p13AddedByGoesToo() {
        fresh(ROADS);
        x.write(0, 0, 0, 7);
        x.goes(0, 2);
        due("undo", x.undo(0), 1);
        letter(0, 0, 0, 1, 5, 3);
    }

    void p13WhoHadItHasItAsItWas() {
        fresh("9;1;1;ab@5;bc@20;ac@5;ca@30");
        x.write(0, 0, 5, 7);
        x.hand(0, 0);
        x.hand(0, 1);
        x.undo(0);
        letter(0, 0, 5, 1, 5, 3);
        x.undo(0);
        letter(0, 0, 5, 0, 5, 1);
        due("who wrote it, at once", x.hand(0, 2), 1);
        due("since when it came first", x.hand(0, 3), 2);
        letter(0, 0, 5, 0, 30, 5);
    }

    // ---- promise 14: lines

    void p14OneLine() {
        fresh(ROADS);
        x.write(1, 0, 0, 7);
        due("lines", x.lines(1), 1);
        row(7);
    }

    void p14TheFirst12() {
        toAndFro(12);
        due("12", x.lines(0), 12);
        row(5, 1, 2, 3, 4, 5, 6, 7, 8, 9, 0, 1);
        toAndFro(13);
        due("13", x.lines(0), 13);
        row(5, 1, 2, 3, 4, 5, 6, 7, 8, 9, 0, 1);
        toAndFro(30);
        due("30", x.lines(0), 30);
        row(5, 1, 2, 3, 4, 5, 6, 7, 8, 9, 0, 1);
    }

    void p14NoSuchLetter() {
        fresh(ROADS);
        x.write(0, 0, 0, 7);
        markRow();
        due("not written", x.lines(1), -1);
        for (int letter : NO_LETTERS) {
            due("letter " + letter, x.lines(letter), -1);
        }
        rowStays();
    }

    // ---- promise 15: of

    void p15EachWhat() {
        fresh(ROADS);
        x.write(2, 2, 3, 9);
        letter(2, 2, 3, 2, 3, 4);
        x.hand(2, 1);
        letter(2, 2, 3, 1, 8, 6);
        x.hand(2, 4);
        letter(2, 2, 3, 3, 13, 14);
    }

    void p15WhoReadItCountsWhoWroteItAndWhoHasIt() {
        nine();
        roads("ai@1;ia@2");
        x.write(0, 8, 0, 0);
        due("who wrote it", x.of(0, 4), 256);
        x.hand(0, 0);
        due("who got it", x.of(0, 4), 257);
        x.hand(0, 1);
        due("once each", x.of(0, 4), 257);
    }

    void p15NoSuchLetter() {
        fresh(ROADS);
        x.write(0, 0, 0, 7);
        for (int what = 0; what < 5; what++) {
            due("not written", x.of(1, what), -1);
            for (int letter : NO_LETTERS) {
                due("letter " + letter, x.of(letter, what), -1);
            }
        }
    }

    void p15AnotherWhat() {
        fresh(ROADS);
        x.write(0, 0, 0, 7);
        for (int what : new int[] {-1, 5, Integer.MIN_VALUE, Integer.MAX_VALUE}) {
            due("what " + what, x.of(0, what), -1);
        }
    }

    // ---- promise 16: can

    void p16NoSuchLetter() {
        fresh(ROADS);
        x.write(0, 0, 0, 7);
        due("not written", x.can(1), -1);
        for (int letter : NO_LETTERS) {
            due("letter " + letter, x.can(letter), -1);
        }
    }

    void p16AtTheHourItWasWrittenAndLater() {
        fresh(ROADS);
        x.write(0, 0, 5, 7);
        due("at 5", x.can(0), 37);
        x.write(0, 0, 6, 7);
        due("at 6", x.can(0), 36);
        x.write(0, 0, 20, 7);
        due("at 20", x.can(0), 32);
        x.write(0, 0, 21, 7);
        due("none", x.can(0), 0);
    }

    void p16ReadsHoursAheadOrMore() {
        fresh("1;3;1;ab@10;bc@12;bc@13;ab@14;ac@20");
        x.write(0, 0, 0, 7);
        x.hand(0, 0);
        due("read", x.can(0), 12);
        x.slow(1, 2);
        due("read quicker", x.can(0), 14);
        x.slow(1, 5);
        due("read too slowly", x.can(0), 0);
    }

    void p16TheTwentiethMeeting() {
        fresh("1;1");
        roads("ab@1;ab@1;ab@1;ab@1;ab@1;ab@1;ab@1;ab@1;ab@1;ab@1");
        roads("ab@1;ab@1;ab@1;ab@1;ab@1;ab@1;ab@1;ab@1;ab@1;ab@1");
        x.write(0, 0, 1, 0);
        due("all", x.can(0), (1 << 20) - 1);
        x.move(0, 0, 0);
        due("all but one", x.can(0), (1 << 20) - 2);
    }

    void p16ThirtyLinesCantGoOn() {
        toAndFro(30);
        x.move(0, 0, 90);
        x.move(1, 0, 90);
        due("none", x.can(0), 0);
        x.undo(0);
        due("both", x.can(0), 3);
    }

    // ---- promise 17: goes

    void p17NoSuchLetter() {
        fresh(ROADS);
        x.write(0, 0, 0, 7);
        markRow();
        due("not written", x.goes(1, 1), -1);
        for (int letter : NO_LETTERS) {
            due("letter " + letter, x.goes(letter, 1), -1);
        }
        rowStays();
    }

    void p17AnotherN() {
        fresh(ROADS);
        x.write(0, 0, 0, 7);
        markRow();
        for (int n : new int[] {-1, 21, Integer.MIN_VALUE, Integer.MAX_VALUE}) {
            due("n " + n, x.goes(0, n), -1);
        }
        rowStays();
        due("lines", x.lines(0), 1);
    }

    void p17From0To20Times() {
        fresh(ROADS);
        x.write(0, 0, 3, 7);
        due("0", x.goes(0, 0), 0);
        row(0, 3);
        due("1", x.goes(0, 1), 1);
        row(1, 5);
        due("20", x.goes(0, 20), 2);
        row(3, 12);
        due("no further", x.goes(0, 20), 0);
        row(3, 12);
    }

    void p17ToEachOnceAtMost() {
        nine();
        roads("ab@1;bc@2;cd@3;de@4;ef@5;fg@6;gh@7;hi@8;ia@9");
        x.write(0, 0, 0, 7);
        due("all eight others", x.goes(0, 20), 8);
        row(8, 8);
        due("readers", x.of(0, 4), 511);
        due("the last could hand it back", x.can(0), 256);
    }

    void p17WithAllTwentyMeetings() {
        fresh("1;1;ab@1;ab@1;ab@1;ab@1;ab@1;ab@1;ab@1;ab@1;ab@1;ab@1");
        roads("ab@1;ab@1;ab@1;ab@1;ab@1;ab@1;ab@1;ab@1;ab@1;ab@1");
        x.write(0, 0, 2, 7);
        due("all are past", x.goes(0, 20), 0);
        row(0, 2);
        x.move(19, 0, 2);
        due("but the last", x.goes(0, 20), 1);
        row(1, 2);
    }

    void p17FirstByHourThenByNumber() {
        fresh("1;1;1;1;ab@9;ac@5;ad@5;cb@7");
        x.write(0, 0, 0, 7);
        due("one", x.goes(0, 1), 1);
        row(2, 5);
        x.write(0, 0, 6, 7);
        due("one", x.goes(0, 1), 1);
        row(1, 9);
        x.move(0, 0, 5);
        x.write(0, 0, 0, 7);
        due("one", x.goes(0, 1), 1);
        row(1, 5);
    }

    void p17NotToWhoHasReadIt() {
        fresh("1;1;1;ab@1;ba@2;ba@3;bc@4;ca@5;cb@6");
        x.write(0, 0, 0, 7);
        due("past both", x.goes(0, 20), 2);
        row(2, 4);
        due("lines", x.lines(0), 3);
        row(7, 1, 2);
    }

    void p17AtWhichItCanBeHandedOn() {
        fresh("1;3;1;1;ab@1;bc@3;bd@4;bc@5");
        x.write(0, 0, 0, 7);
        due("read by then", x.goes(0, 20), 2);
        row(3, 4);
    }

    void p17UpToThirtyLines() {
        fresh("1;1;1;ab@1;ba@2;ac@80;bc@80");
        x.write(0, 0, 0, 5);
        for (int k = 1; k < 29; k++) {
            x.move(k % 2 == 0 ? 1 : 0, 0, k);
            x.hand(0, k % 2 == 0 ? 1 : 0);
        }
        due("the 30th", x.goes(0, 20), 1);
        row(2, 80);
        x.undo(0);
        x.move(0, 0, 29);
        x.hand(0, 0);
        due("no 31st", x.goes(0, 20), 0);
        row(1, 29);
    }

    // ---- promise 18: read

    void p18NoneSuch() {
        fresh(ROADS);
        x.write(0, 0, 0, 7);
        for (int person : new int[] {4, 9, -1, Integer.MIN_VALUE, Integer.MAX_VALUE}) {
            due("one " + person, x.read(person), -1);
        }
    }

    void p18EachLetterIsABit() {
        fresh(ROADS);
        due("none", x.read(0), 0);
        x.write(0, 1, 0, 7);
        x.write(1, 0, 0, 7);
        x.write(2, 0, 0, 7);
        due("written by", x.read(0), 6);
        due("written by", x.read(1), 1);
        x.hand(2, 0);
        due("handed to", x.read(1), 5);
        due("who had it", x.read(0), 6);
        x.undo(2);
        due("undone", x.read(1), 1);
    }

    // ---- promises 50, 51: keep, again

    void p50NumbersAre0And1() {
        fresh(ROADS);
        for (int i : new int[] {2, -1, Integer.MIN_VALUE, Integer.MAX_VALUE}) {
            due("keep " + i, x.keep(i), false);
        }
        due("nothing kept", x.again(0), false);
        due("nothing kept", x.again(1), false);
        due("keep 0", x.keep(0), true);
        due("nothing under 1", x.again(1), false);
        due("keep 1", x.keep(1), true);
        due("again 1", x.again(1), true);
    }

    void p50KeptAnew() {
        fresh(ROADS);
        x.write(0, 0, 0, 7);
        x.keep(0);
        x.write(1, 1, 0, 8);
        due("anew", x.keep(0), true);
        x.write(2, 2, 0, 9);
        x.again(0);
        due("letters", x.count(2), 3);
    }

    void p50NothingIsKeptOfOtherThings() {
        fresh(ROADS);
        tale("123");
        x.keep(0);
        roads("5;ea@7");
        x.slow(0, 9);
        x.move(0, 0, 77);
        tale("12");
        x.far(0, 99);
        Checks.put(x, "abc");
        due("again", x.again(0), true);
        due("people", x.count(0), 5);
        due("meetings", x.count(1), 7);
        due("reads", x.reads(0), 9);
        due("hour", meeting(0, 2), 77);
        due("tale", x.count(3), 2);
        due("signs", x.count(6), 3);
        due("row", x.count(5), 5);
    }

    void p51NothingKeptIsRefused() {
        fresh(ROADS);
        x.write(0, 0, 0, 7);
        for (int i : new int[] {0, 1, 2, -1, Integer.MIN_VALUE, Integer.MAX_VALUE}) {
            due("again " + i, x.again(i), false);
        }
        due("letters", x.count(2), 1);
    }

    void p51NoLettersKeptAreNoLetters() {
        fresh(ROADS);
        x.keep(1);
        x.write(0, 0, 0, 7);
        x.write(2, 0, 0, 7);
        due("again", x.again(1), true);
        due("letters", x.count(2), 0);
        due("lines", x.lines(0), -1);
    }

    void p51AsTheyWereKept() {
        fresh(ROADS);
        x.write(0, 0, 4, 7);
        x.goes(0, 3);
        x.write(1, 2, 6, 8);
        x.keep(0);
        x.undo(0);
        x.undo(0);
        x.goes(1, 1);
        x.write(2, 3, 9, 9);
        for (int k = 0; k < 2; k++) {
            due("again", x.again(0), true);
            letter(0, 0, 4, 3, 12, 15);
            letter(1, 2, 6, 2, 6, 4);
            due("letters", x.count(2), 3);
            due("lines", x.lines(0), 4);
            row(7, 1, 2, 3);
            due("undo as kept", x.undo(0), 2);
        }
    }

    void p51LinesAsTheyWereKept() {
        fresh(ROADS);
        x.write(0, 0, 4, 7);
        x.goes(0, 1);
        x.keep(1);
        x.write(0, 1, 5, 9);
        rule("5");
        x.goes(0, 1);
        x.again(1);
        due("lines", x.lines(0), 2);
        row(7, 1);
        letter(0, 0, 4, 1, 5, 3);
        due("check", x.check(0), 1);
    }

    void p51BothStandApart() {
        fresh(ROADS);
        x.write(0, 0, 4, 7);
        x.keep(0);
        x.write(0, 1, 6, 8);
        x.keep(1);
        x.again(0);
        letter(0, 0, 4, 0, 4, 1);
        x.again(1);
        letter(0, 1, 6, 1, 6, 2);
        x.again(0);
        letter(0, 0, 4, 0, 4, 1);
    }

    // ---- promise 52: count

    void p52AnotherWhat() {
        fresh(ROADS);
        for (int what : new int[] {-1, 7, 8, Integer.MIN_VALUE, Integer.MAX_VALUE}) {
            due("what " + what, x.count(what), -1);
        }
    }

    void p52EachWhat() {
        nine();
        roads("ab@1;ab@1;ab@1;ab@1;ab@1;ab@1;ab@1;ab@1;ab@1;ab@1");
        roads("ab@1;ab@1;ab@1;ab@1;ab@1;ab@1;ab@1;ab@1;ab@1;ab@1");
        x.write(0, 0, 0, 0);
        x.write(1, 0, 0, 0);
        x.write(2, 0, 0, 0);
        tale("012345678901");
        x.lay();
        tale("01234567890");
        x.far(0, 0);
        Checks.put(x, "1".repeat(80));
        int[] want = {9, 20, 7, 11, 12, 9, 80};
        for (int what = 0; what < 7; what++) {
            due("what " + what, x.count(what), want[what]);
        }
    }

    // ---- promise 53: row

    void p53NoneSuchThrows() {
        fresh(ROADS);
        due("of none", Checks.rowAt(x, 0), THROWS);
        x.far(0, 0);
        row(20, 5, 8, 12);
        for (int i : new int[] {4, 11, 12, -1, Integer.MIN_VALUE, Integer.MAX_VALUE}) {
            due("number " + i, Checks.rowAt(x, i), THROWS);
        }
        x.apart(3, 0, 0);
        due("none again", Checks.rowAt(x, 0), THROWS);
    }

    void p53TheTwelfthAndNoMore() {
        toAndFro(30);
        x.lines(0);
        due("the twelfth", Checks.rowAt(x, 11), 1);
        due("no more", Checks.rowAt(x, 12), THROWS);
    }
}
