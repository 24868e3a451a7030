/** The edges of promises 19 to 33: ways that a letter can come. */
public final class WaysEdgesTest extends Edges {
    private static final int[][] NO_TRIPS = {
        {4, 0, 0}, {9, 0, 0}, {-1, 0, 0}, {Integer.MIN_VALUE, 0, 0}, {Integer.MAX_VALUE, 0, 0},
        {0, 4, 0}, {0, 9, 0}, {0, -1, 0}, {0, Integer.MIN_VALUE, 0}, {0, Integer.MAX_VALUE, 0},
        {0, 1, 100}, {0, 1, -1}, {0, 1, Integer.MIN_VALUE}, {0, 1, Integer.MAX_VALUE}};

    private static final int[] NO_HOURS = {100, -1, Integer.MIN_VALUE, Integer.MAX_VALUE};

    private WaysEdgesTest() {
        super("WaysEdgesTest");
    }

    public static void main(String[] args) {
        new WaysEdgesTest().runAll();
    }

    /** Two people who meet 20 times, later numbers first: at hours 40, 38, .., 2. */
    private void twentyBackwards() {
        fresh("1;1;ab@40;ab@38;ab@36;ab@34;ab@32;ab@30;ab@28;ab@26;ab@24;ab@22");
        roads("ab@20;ab@18;ab@16;ab@14;ab@12;ab@10;ab@8;ab@6;ab@4;ab@2");
    }

    // ---- promise 19: soonest

    void p19Others() {
        fresh(ROADS);
        markRow();
        for (int[] t : NO_TRIPS) {
            due("soonest", x.soonest(t[0], t[1], t[2]), -1);
        }
        rowStays();
    }

    void p19ItCant() {
        fresh(ROADS);
        markRow();
        due("too late", x.soonest(0, 3, 10), -2);
        due("no meeting", x.soonest(3, 3, 99), -2);
        rowStays();
        nine();
        markRow();
        due("no meetings at all", x.soonest(0, 1, 0), -2);
        rowStays();
    }

    void p19Hours0And99() {
        fresh("9;9;ab@0;ba@99");
        due("at 0", x.soonest(0, 1, 0), 0);
        row(0);
        due("at 99", x.soonest(0, 1, 99), 99);
        row(1);
        due("from 1 on", x.soonest(0, 1, 1), 99);
    }

    void p19AtTheHourItIsWritten() {
        fresh("9;9;ab@50;ab@60");
        due("at it", x.soonest(0, 1, 50), 50);
        due("behind it", x.soonest(0, 1, 51), 60);
        due("from the other side", x.soonest(1, 0, 50), 50);
    }

    void p19ReadsHoursAheadOrMore() {
        fresh("1;3;1;ab@10;bc@12;bc@13");
        due("just read", x.soonest(0, 2, 0), 13);
        row(0, 2);
        x.slow(1, 2);
        due("read quicker", x.soonest(0, 2, 0), 12);
        x.slow(1, 4);
        due("not read", x.soonest(0, 2, 0), -2);
    }

    void p19NotTwiceInAnHour() {
        fresh("1;1;1;ab@10;bc@10;bc@11");
        due("the next hour", x.soonest(0, 2, 10), 11);
        row(0, 2);
    }

    void p19ToTheSameByAtLeastOneMeeting() {
        fresh("1;1;ab@10;ba@11");
        due("back", x.soonest(0, 0, 10), 11);
        row(0, 1);
        due("not back", x.soonest(0, 0, 11), -2);
    }

    void p19OfThoseThatComeThenTheFewestMeetings() {
        fresh("1;1;1;1;ab@1;bc@2;cd@9;ad@9");
        due("soonest", x.soonest(0, 3, 0), 9);
        row(3);
    }

    void p19OfThoseTheLeastRow() {
        fresh("1;1;1;1;ac@1;ab@1;bd@9;cd@9;ab@2");
        due("soonest", x.soonest(0, 3, 0), 9);
        row(0, 3);
        due("later", x.soonest(0, 3, 2), 9);
        row(4, 2);
        x.move(2, 0, 8);
        due("sooner ahead of the least", x.soonest(0, 3, 0), 8);
        row(1, 2);
    }

    void p19ByAllNine() {
        nine();
        roads("ab@1;bc@2;cd@3;de@4;ef@5;fg@6;gh@7;hi@8;ia@9");
        due("to the last", x.soonest(0, 8, 0), 8);
        row(0, 1, 2, 3, 4, 5, 6, 7);
        due("around", x.soonest(0, 0, 0), 9);
        row(0, 1, 2, 3, 4, 5, 6, 7, 8);
    }

    // ---- promise 20: latest

    void p20Others() {
        fresh(ROADS);
        markRow();
        for (int[] t : NO_TRIPS) {
            due("latest", x.latest(t[0], t[1], t[2]), -1);
        }
        rowStays();
    }

    void p20ThereIsNone() {
        fresh(ROADS);
        markRow();
        due("too early", x.latest(0, 3, 11), -2);
        due("at all", x.latest(3, 3, 99), -2);
        due("at 0", x.latest(0, 1, 0), -2);
        rowStays();
    }

    void p20TheHourItselfCounts() {
        fresh("9;9;ab@0;ab@50;ab@99");
        due("by 0", x.latest(0, 1, 0), 0);
        due("by 49", x.latest(0, 1, 49), 0);
        due("by 50", x.latest(0, 1, 50), 50);
        due("by 98", x.latest(0, 1, 98), 50);
        due("by 99", x.latest(0, 1, 99), 99);
    }

    void p20ReadsHoursAheadOrMore() {
        fresh("1;3;1;ab@10;ab@9;bc@12");
        due("just read", x.latest(0, 2, 12), 9);
        x.slow(1, 2);
        due("read quicker", x.latest(0, 2, 12), 10);
        x.slow(1, 4);
        due("not read", x.latest(0, 2, 12), -2);
    }

    void p20ToTheSame() {
        fresh("1;1;ab@10;ba@11;ab@12");
        due("by 11", x.latest(0, 0, 11), 10);
        due("by 12", x.latest(0, 0, 12), 11);
        due("by 10", x.latest(0, 0, 10), -2);
    }

    void p20TheRowStays() {
        fresh(ROADS);
        markRow();
        due("latest", x.latest(0, 3, 99), 9);
        rowStays();
    }

    // ---- promise 21: hands

    void p21Others() {
        fresh(ROADS);
        markRow();
        for (int[] t : NO_TRIPS) {
            due("hands", x.hands(t[0], t[1], t[2]), -1);
        }
        rowStays();
    }

    void p21ItCant() {
        fresh(ROADS);
        markRow();
        due("hands", x.hands(0, 3, 10), -2);
        rowStays();
    }

    void p21TheLeastRowOfAsFew() {
        fresh("1;1;1;1;bd@9;cd@8;ab@1;ac@1;bc@3;ad@99");
        due("one", x.hands(0, 3, 0), 1);
        row(5);
        x.move(5, 0, 0);
        due("two", x.hands(0, 3, 1), 2);
        row(2, 0);
    }

    void p21ToTheSame() {
        fresh("1;1;1;ab@10;bc@12;ca@14;ba@16");
        due("two", x.hands(0, 0, 0), 2);
        row(0, 3);
    }

    // ---- promise 22: cheapest

    void p22Others() {
        fresh(ROADS);
        markRow();
        for (int[] t : NO_TRIPS) {
            due("cheapest", x.cheapest(t[0], t[1], t[2]), -1);
        }
        rowStays();
    }

    void p22ItCant() {
        fresh(ROADS);
        markRow();
        due("cheapest", x.cheapest(0, 3, 10), -2);
        rowStays();
    }

    void p22ForNothing() {
        fresh("1;1;1;ab@1;bc@2;ac@3*1");
        due("0", x.cheapest(0, 2, 0), 0);
        row(0, 1);
        due("1", x.cheapest(0, 2, 3), 1);
        row(2);
    }

    void p22OfAsCheapOnesTheFewestMeetings() {
        fresh("1;1;1;ab@1*1;bc@2*1;ac@3*2");
        due("2", x.cheapest(0, 2, 0), 2);
        row(2);
    }

    void p22ThenTheLeastRow() {
        fresh("1;1;1;1;cd@9*1;bd@9*2;ab@1*3;ac@1*4");
        due("5", x.cheapest(0, 3, 0), 5);
        row(2, 1);
        x.move(2, 1, 4);
        due("5", x.cheapest(0, 3, 0), 5);
        row(3, 0);
    }

    void p22TheDearest() {
        nine();
        roads("ab@1*9;bc@2*9;cd@3*9;de@4*9;ef@5*9;fg@6*9;gh@7*9;hi@8*9;ia@9*9");
        due("81", x.cheapest(0, 0, 0), 81);
        row(0, 1, 2, 3, 4, 5, 6, 7, 8);
    }

    void p22OneNineIsDearerThanManyOnes() {
        nine();
        roads("ai@9*8;ab@1*1;bc@2*1;cd@3*1;de@4*1;ef@5*1;fg@6*1;gh@7*1;hi@8*0");
        due("7", x.cheapest(0, 8, 0), 7);
        row(1, 2, 3, 4, 5, 6, 7, 8);
        x.move(0, 1, 7);
        due("7 by one", x.cheapest(0, 8, 0), 7);
        row(0);
    }

    // ---- promise 23: without

    void p23Others() {
        fresh(ROADS);
        markRow();
        for (int[] t : NO_TRIPS) {
            due("without", x.without(t[0], t[1], t[2], 0), -1);
        }
        rowStays();
    }

    void p23BitsOfNoneSuch() {
        fresh(ROADS);
        markRow();
        for (int those : new int[] {16, 31, 512, -1, Integer.MIN_VALUE, Integer.MAX_VALUE}) {
            due("those " + those, x.without(0, 3, 0, those), -1);
        }
        rowStays();
        due("all that there are", x.without(0, 1, 0, 15), 5);
        nine();
        roads("ab@1");
        due("all nine", x.without(0, 1, 0, 511), 1);
        due("a tenth", x.without(0, 1, 0, 512), -1);
    }

    void p23ItCant() {
        fresh(ROADS);
        markRow();
        due("but by those", x.without(0, 3, 0, 6), -2);
        due("at all", x.without(0, 3, 10, 0), -2);
        rowStays();
    }

    void p23NoneToldIsLikeSoonest() {
        fresh(ROADS);
        due("12", x.without(0, 3, 0, 0), 12);
        row(2, 3);
    }

    void p23WhoItIsForMayAsItsLast() {
        fresh("1;1;1;ab@1;bc@2");
        due("the last", x.without(0, 1, 0, 2), 1);
        row(0);
        due("not on the way", x.without(0, 2, 0, 2), -2);
        due("the last behind others", x.without(0, 2, 0, 4), 2);
        row(0, 1);
    }

    void p23WhoWroteItDoesNotGetItSo() {
        fresh("1;1;1;ab@1;ba@2;bc@3;ac@9");
        due("written by one of those", x.without(0, 2, 0, 1), 3);
        row(0, 2);
        due("and back to that one", x.without(0, 0, 0, 1), 2);
        row(0, 1);
    }

    void p23TheRowIsToldLikewise() {
        fresh("1;1;1;1;ab@1;ac@1;bd@9;cd@9;ad@9");
        due("by the fewest", x.without(0, 3, 0, 2), 9);
        row(4);
        x.move(4, 0, 10);
        due("past b", x.without(0, 3, 0, 2), 9);
        row(1, 3);
        due("past c", x.without(0, 3, 0, 4), 9);
        row(0, 2);
        due("past both", x.without(0, 3, 0, 6), 10);
        row(4);
    }

    // ---- promise 24: ways

    void p24Others() {
        fresh(ROADS);
        for (int[] t : NO_TRIPS) {
            due("ways", x.ways(t[0], t[1], t[2]), -1);
        }
    }

    void p24ItCant() {
        fresh(ROADS);
        due("ways", x.ways(0, 3, 10), 0);
    }

    void p24ItMayGoOnFromWhomItIsForAndComeBack() {
        fresh("1;1;1;ab@1;bc@2;cb@3");
        due("at once and back again", x.ways(0, 1, 0), 2);
        due("to c", x.ways(0, 2, 0), 2);
    }

    void p24ItMayComeToOneMoreThanOnce() {
        fresh("1;1;1;ab@1;ba@2;ab@3;bc@4");
        due("to c, once by all four", x.ways(0, 2, 0), 4);
    }

    void p24TheSameByAtLeastOneMeeting() {
        fresh("1;1;ab@1;ba@2;ab@3");
        due("back", x.ways(0, 0, 0), 3);
        due("back later", x.ways(0, 0, 2), 1);
        due("not back", x.ways(0, 0, 3), 0);
    }

    void p24WhoGetsItBackHasToReadItToo() {
        fresh("3;1;ab@10;ba@20;ab@22;ab@23");
        due("not at 22", x.ways(0, 1, 0), 5);
        x.slow(0, 2);
        due("at 22, too", x.ways(0, 1, 0), 6);
    }

    void p24TheMost() {
        twentyBackwards();
        due("to b", x.ways(0, 1, 0), 524288);
        due("to a", x.ways(0, 0, 0), 524287);
        due("with one", x.ways(0, 1, 40), 1);
    }

    // ---- promise 25: needs

    void p25Others() {
        fresh(ROADS);
        for (int[] t : NO_TRIPS) {
            due("needs", x.needs(t[0], t[1], t[2]), -1);
        }
    }

    void p25ZeroWithoutAWay() {
        fresh(ROADS);
        due("needs", x.needs(0, 3, 10), 0);
        due("needs", x.needs(3, 3, 99), 0);
    }

    void p25InEachWay() {
        fresh("1;1;1;1;ab@1;bc@2;bc@3;cd@4");
        due("first and last", x.needs(0, 3, 0), 9);
        x.move(2, 0, 4);
        due("all but the second", x.needs(0, 3, 0), 11);
        x.move(2, 0, 3);
        roads("ad@50");
        due("none", x.needs(0, 3, 0), 0);
    }

    void p25TheTwentiethMeeting() {
        twentyBackwards();
        x.move(19, 0, 60);
        due("it alone", x.needs(0, 1, 60), 1 << 19);
        due("none", x.needs(0, 1, 40), 0);
    }

    // ---- promise 26: idle

    void p26Others() {
        fresh(ROADS);
        for (int[] t : NO_TRIPS) {
            due("idle", x.idle(t[0], t[1], t[2]), -1);
        }
    }

    void p26BothEndsAside() {
        fresh(ROADS);
        due("without a way", x.idle(0, 3, 10), 6);
        due("to the same without a way", x.idle(3, 3, 99), 7);
        fresh("1;1;ab@1;ba@2;ab@3");
        due("both are between, too", x.idle(0, 1, 0), 0);
        due("nobody else", x.idle(0, 0, 0), 0);
    }

    void p26OnNoWayBetween() {
        fresh("1;1;1;1;1;ab@5;bc@8;bd@6;ce@2;de@3");
        due("who gets it and can't hand it on to c", x.idle(0, 2, 0), 24);
        due("the direct way", x.idle(0, 1, 0), 28);
        nine();
        roads("ab@1;bi@2");
        due("all others", x.idle(0, 8, 0), 252);
    }

    void p26NotReadByThen() {
        fresh("1;2;1;1;ab@5;bc@6;ad@5;dc@6");
        due("b", x.idle(0, 2, 0), 2);
        x.slow(1, 1);
        due("none", x.idle(0, 2, 0), 0);
    }

    // ---- promise 27: longest

    void p27Others() {
        fresh(ROADS);
        markRow();
        for (int[] t : NO_TRIPS) {
            due("longest", x.longest(t[0], t[1], t[2]), -1);
        }
        rowStays();
    }

    void p27ItCant() {
        fresh(ROADS);
        markRow();
        due("longest", x.longest(0, 3, 10), -2);
        rowStays();
    }

    void p27TheFirst12Meetings() {
        twentyBackwards();
        due("20", x.longest(0, 0, 0), 20);
        row(19, 18, 17, 16, 15, 14, 13, 12, 11, 10, 9, 8);
        due("19", x.longest(0, 1, 0), 19);
        row(18, 17, 16, 15, 14, 13, 12, 11, 10, 9, 8, 7);
        due("13", x.longest(0, 1, 16), 13);
        row(12, 11, 10, 9, 8, 7, 6, 5, 4, 3, 2, 1);
        due("12", x.longest(0, 0, 18), 12);
        row(11, 10, 9, 8, 7, 6, 5, 4, 3, 2, 1, 0);
        due("11", x.longest(0, 1, 20), 11);
        row(10, 9, 8, 7, 6, 5, 4, 3, 2, 1, 0);
    }

    void p27TheLeastRowOfAsMany() {
        fresh("1;1;1;1;ac@2;ab@1;bd@9;cd@9;bd@8");
        due("2", x.longest(0, 3, 0), 2);
        row(0, 3);
        due("on from whom it is for, and back", x.longest(0, 1, 0), 3);
        row(1, 4, 2);
    }

    // ---- promise 28: pairs

    void p28AnotherHour() {
        fresh(ROADS);
        markRow();
        for (int hour : NO_HOURS) {
            due("hour " + hour, x.pairs(hour), -1);
        }
        rowStays();
    }

    void p28None() {
        fresh(ROADS);
        markRow();
        due("none", x.pairs(21), 0);
        row();
        due("none at 99", x.pairs(99), 0);
    }

    void p28UnlikeOnesAlone() {
        fresh("1;1;ab@0;ba@99");
        due("not to the same", x.pairs(0), 2);
        row(0, 1, 0);
        due("the last hour", x.pairs(99), 2);
        row(0, 1, 99);
    }

    void p28OfEqualOnesTheFirstByWhoWritesThenWhoGetsIt() {
        fresh("1;1;1;1;dc@7;cb@7;ba@7");
        due("six", x.pairs(7), 6);
        row(0, 1, 7);
        fresh("1;1;1;1;da@9;bc@9;ac@9;ab@1");
        due("pairs", x.pairs(0), 9);
        row(0, 2, 9);
        fresh("1;1;1;ab@5;cb@9");
        due("pairs", x.pairs(0), 5);
        row(0, 2, 9);
    }

    // ---- promise 29: bargain

    void p29Others() {
        fresh(ROADS);
        markRow();
        for (int[] t : NO_TRIPS) {
            due("bargain", x.bargain(t[0], t[1], t[2], 99), -1);
        }
        for (int by : NO_HOURS) {
            due("by " + by, x.bargain(0, 3, 0, by), -1);
            due("by " + by + " ahead of -2", x.bargain(0, 3, 10, by), -1);
        }
        rowStays();
    }

    void p29ItCant() {
        fresh(ROADS);
        markRow();
        due("too early", x.bargain(0, 3, 0, 11), -2);
        due("ahead of the hour it is written", x.bargain(0, 3, 6, 5), -2);
        due("at all", x.bargain(0, 3, 10, 99), -2);
        rowStays();
    }

    void p29TheHourItselfCounts() {
        fresh("1;1;ab@0*5;ab@50*4;ab@99*3");
        due("by 0", x.bargain(0, 1, 0, 0), 5);
        row(0);
        due("by 49", x.bargain(0, 1, 0, 49), 5);
        due("by 50", x.bargain(0, 1, 0, 50), 4);
        row(1);
        due("by 98", x.bargain(0, 1, 0, 98), 4);
        due("by 99", x.bargain(0, 1, 0, 99), 3);
        row(2);
        due("at 99 by 99", x.bargain(0, 1, 99, 99), 3);
    }

    void p29TheRowIsToldLikewise() {
        fresh("1;1;1;1;ab@1*2;bd@9*2;ac@1*1;cd@9*3;ad@8*4;ad@60*3");
        due("by 9", x.bargain(0, 3, 0, 9), 4);
        row(4);
        x.move(4, 0, 10);
        due("by 9", x.bargain(0, 3, 0, 9), 4);
        row(0, 1);
        due("by 99", x.bargain(0, 3, 0, 99), 3);
        row(5);
    }

    // ---- promise 30: apart

    void p30OthersAndLikeOnes() {
        fresh(ROADS);
        markRow();
        for (int[] t : NO_TRIPS) {
            due("apart", x.apart(t[0], t[1], t[2]), -1);
        }
        for (int p = 0; p < 4; p++) {
            due("like ones", x.apart(p, p, 0), -1);
        }
        rowStays();
    }

    void p30ZeroTellsNoRow() {
        fresh(ROADS);
        markRow();
        due("one is on both", x.apart(3, 0, 0), 0);
        row();
        markRow();
        due("no way at all", x.apart(0, 3, 10), 0);
        row();
    }

    void p30NobodyBetweenIsOnBoth() {
        fresh("1;1;1;1;1;ab@1;bc@3;bd@3;ce@5;de@5");
        due("b is on both", x.apart(0, 4, 0), 0);
        roads("ac@2");
        due("b is not", x.apart(0, 4, 0), 1);
        row(4);
    }

    void p30TheLeastSetAsANumber() {
        fresh("1;1;1;1;1;ab@1;be@9;ac@1;cd@3;de@9");
        due("b alone", x.apart(0, 4, 0), 1);
        row(2);
        roads("ad@2");
        due("b still", x.apart(0, 4, 0), 1);
        row(2);
        x.move(1, 0, 0);
        due("none but by d", x.apart(0, 4, 0), 0);
        row();
        roads("ce@50");
        due("c", x.apart(0, 4, 0), 1);
        row(4);
        roads("ae@99");
        due("nobody", x.apart(0, 4, 0), 1);
        row(0);
    }

    void p30AllOthersAreForTheSecond() {
        nine();
        roads("ah@1;hi@2;ab@1;bc@2;cd@3;de@4;ef@5;fg@6;gi@7");
        due("six for the first", x.apart(0, 8, 0), 1);
        row(126);
    }

    // ---- promise 31: far

    void p31Others() {
        fresh(ROADS);
        markRow();
        for (int from : new int[] {4, 9, -1, Integer.MIN_VALUE, Integer.MAX_VALUE}) {
            due("from " + from, x.far(from, 0), -1);
        }
        for (int hour : NO_HOURS) {
            due("hour " + hour, x.far(0, hour), -1);
        }
        rowStays();
    }

    void p31ItCant() {
        fresh(ROADS);
        due("none", x.far(0, 21), 0);
        row(-1, -1, -1, -1);
    }

    void p31OfWhoWroteItByAtLeastOneMeeting() {
        fresh("1;1;ab@0;ba@99");
        due("far", x.far(0, 0), 1);
        row(99, 0);
        due("far", x.far(0, 99), 1);
        row(-1, 99);
        due("far", x.far(1, 0), 1);
        row(0, 99);
    }

    void p31NineNumbers() {
        nine();
        roads("ab@1;ac@2;ad@3;ae@4;af@5;ag@6;ah@7;ai@8;ia@20");
        due("far", x.far(0, 0), 8);
        row(20, 1, 2, 3, 4, 5, 6, 7, 8);
    }

    // ---- promise 32: worst

    void p32Others() {
        fresh(ROADS);
        markRow();
        for (int[] t : NO_TRIPS) {
            due("worst", x.worst(t[0], t[1], t[2]), -1);
        }
        rowStays();
    }

    void p32ItCantComeAsItIs() {
        fresh(ROADS);
        markRow();
        due("worst", x.worst(0, 3, 10), -2);
        due("worst", x.worst(3, 3, 99), -2);
        rowStays();
    }

    void p32NotAtAllIsLaterThanAnyHour() {
        fresh("1;1;2;ac@98;ab@1;bc@99");
        due("either", x.worst(0, 2, 0), 0);
        row(99);
        due("the only one", x.worst(0, 1, 0), 1);
        row(-1);
        x.move(0, 0, 0);
        due("now behind others", x.worst(0, 2, 1), 1);
        row(-1);
    }

    void p32OfEqualOnesTheFirst() {
        fresh("1;1;1;ab@50;ab@60;ab@10");
        due("the soonest", x.worst(0, 1, 0), 2);
        row(50);
        x.move(1, 0, 10);
        due("none changes anything", x.worst(0, 1, 0), 0);
        row(10);
        fresh("1;1;1;ab@1;bc@2");
        due("both are needed", x.worst(0, 2, 0), 0);
        row(-1);
    }

    // ---- promise 33: way

    void p33AnEmptyTextIsNone() {
        fresh(ROADS);
        due("the hour it was written", way("", 0, 7), 7);
        row();
        due("at 0", way("", 3, 0), 0);
        due("at 99", way("", 3, 99), 99);
    }

    void p33OthersAskedFirst() {
        fresh(ROADS);
        markRow();
        for (int from : new int[] {4, 9, -1, Integer.MIN_VALUE, Integer.MAX_VALUE}) {
            due("from " + from, way("b", from, 0), -200);
            due("from " + from + ", wrong text", way("x", from, 0), -200);
            due("from " + from + ", no text", way("", from, 0), -200);
        }
        for (int hour : NO_HOURS) {
            due("hour " + hour, way("b", 0, hour), -200);
            due("hour " + hour + ", wrong text", way("x", 0, hour), -200);
            due("hour " + hour + ", can't", way("a", 0, hour), -200);
        }
        rowStays();
    }

    void p33TheTextIsEmptiedWhateverItAnswers() {
        fresh(ROADS);
        way("b", 0, 0);
        due("a way", x.count(6), 0);
        way("x", 0, 0);
        due("a wrong sign", x.count(6), 0);
        way("d", 0, 0);
        due("can't", x.count(6), 0);
        way("b", 4, 0);
        due("others", x.count(6), 0);
    }

    void p33ASignThatCantStand() {
        fresh(ROADS);
        markRow();
        due("of none that is there", way("e", 0, 0), -1);
        due("a great letter", way("B", 0, 0), -1);
        due("a digit", way("1", 0, 0), -1);
        due("below a", way("`", 0, 0), -1);
        due("the third", way("bdz", 0, 0), -3);
        due("above 127", way("b\u00e1", 0, 0), -2);
        rowStays();
    }

    void p33MoreThan30Signs() {
        fresh("1;1;ab@1");
        String thirty = "ba".repeat(15);
        due("30 can't go so far", way(thirty, 0, 0), -101);
        due("31", way(thirty + "b", 0, 0), -31);
        due("31, the last wrong", way(thirty + "x", 0, 0), -31);
        due("80", way("ba".repeat(40), 0, 0), -31);
        due("the 30th wrong", way(thirty.substring(1) + "xx", 0, 0), -30);
        due("the first wrong", way("x" + thirty, 0, 0), -1);
    }

    void p33WhoCantGetItSo() {
        fresh(ROADS);
        markRow();
        due("letter 0", way("d", 0, 0), -100);
        due("letter 1", way("ca", 0, 0), -101);
        due("letter 2", way("bdb", 0, 0), -102);
        due("too late", way("b", 0, 21), -100);
        due("not read by then", way("bcd", 0, 6), -101);
        rowStays();
    }

    void p33TheLastLetterOfMost() {
        twentyBackwards();
        due("letter 20", way("ba".repeat(10) + "b", 0, 0), -120);
        due("20 letters", way("ba".repeat(10), 0, 0), 40);
    }

    void p33TheFirst12Meetings() {
        twentyBackwards();
        due("13", way("ba".repeat(6) + "b", 0, 0), 26);
        row(19, 18, 17, 16, 15, 14, 13, 12, 11, 10, 9, 8);
        due("12", way("ba".repeat(6), 0, 0), 24);
        row(19, 18, 17, 16, 15, 14, 13, 12, 11, 10, 9, 8);
        due("11", way("ba".repeat(5) + "b", 0, 0), 22);
        row(19, 18, 17, 16, 15, 14, 13, 12, 11, 10, 9);
    }

    void p33TheFirstMeetingAtWhichItCanBeHandedOn() {
        fresh("1;3;1;ab@9;ab@5;ab@5;bc@7;bc@8;bc@20");
        due("by hour, then number", way("b", 0, 0), 5);
        row(1);
        due("at the hour it was written", way("b", 0, 5), 5);
        row(1);
        due("behind it", way("b", 0, 6), 9);
        row(0);
        due("read by then", way("bc", 0, 0), 8);
        row(1, 4);
        due("not ahead of that", way("bc", 0, 6), 20);
        row(0, 5);
    }
}
