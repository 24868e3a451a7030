/** The edges of promises 45 to 49: answers and gossip. */
public final class GossipEdgesTest extends Edges {
    private static final int[] NO_PEOPLE = {4, 9, -1, Integer.MIN_VALUE, Integer.MAX_VALUE};
    private static final int[] NO_HOURS = {100, -1, Integer.MIN_VALUE, Integer.MAX_VALUE};

    private GossipEdgesTest() {
        super("GossipEdgesTest");
    }

    public static void main(String[] args) {
        new GossipEdgesTest().runAll();
    }

    // ---- promise 45: answer

    void p45OthersAndLikeOnes() {
        fresh(ROADS);
        markRow();
        for (int p : NO_PEOPLE) {
            due("asker " + p, x.answer(p, 0, 0), -1);
            due("other " + p, x.answer(0, p, 0), -1);
        }
        for (int hour : NO_HOURS) {
            due("hour " + hour, x.answer(0, 1, hour), -1);
        }
        for (int p = 0; p < 4; p++) {
            due("like ones", x.answer(p, p, 0), -1);
        }
        rowStays();
    }

    void p45NoneComes() {
        fresh(ROADS);
        markRow();
        due("it does not come", x.answer(0, 3, 10), -2);
        due("none comes back", x.answer(0, 1, 14), -2);
        rowStays();
    }

    void p45ReadsHoursBehindThat() {
        fresh("1;3;ab@10;ba@12;ba@13;ba@20");
        due("just read", x.answer(0, 1, 0), 13);
        row(10);
        x.slow(1, 2);
        due("read quicker", x.answer(0, 1, 0), 12);
        x.slow(1, 4);
        due("read slower", x.answer(0, 1, 0), 20);
        row(10);
    }

    void p45WrittenAt99AtTheLatest() {
        fresh("1;9;ab@90;ba@99");
        due("written at 99", x.answer(0, 1, 0), 99);
        row(90);
        x.move(0, 0, 91);
        due("not at 100", x.answer(0, 1, 0), -2);
        x.move(0, 0, 99);
        due("not at 108", x.answer(0, 1, 0), -2);
    }

    void p45FromHour0To99() {
        fresh("1;1;ab@0;ba@1");
        due("at 0", x.answer(0, 1, 0), 1);
        row(0);
        due("at 1", x.answer(0, 1, 1), -2);
        due("at 99", x.answer(0, 1, 99), -2);
        due("the other way", x.answer(1, 0, 0), 1);
    }

    void p45SoonestBothWays() {
        fresh("1;1;1;ab@9;ac@1;cb@4;bc@6;ca@8;ba@20");
        due("by c", x.answer(0, 1, 0), 8);
        row(4);
    }

    // ---- promise 46: ask

    void p46Others() {
        fresh(ROADS);
        markRow();
        for (int p : NO_PEOPLE) {
            due("asker " + p, x.ask(p, 0), -1);
        }
        for (int hour : NO_HOURS) {
            due("hour " + hour, x.ask(0, hour), -1);
        }
        rowStays();
    }

    void p46None() {
        fresh(ROADS);
        markRow();
        due("too late", x.ask(0, 10), -2);
        due("at 99", x.ask(0, 99), -2);
        rowStays();
        fresh("1");
        due("nobody else", x.ask(0, 0), -2);
        row();
    }

    void p46OfEqualOnesTheFirst() {
        fresh("1;1;1;1;ad@1;ac@1;ab@1;da@5;ca@5;ba@6");
        due("c, d as soon", x.ask(0, 0), 2);
        row(5);
        x.move(5, 0, 5);
        due("b, too", x.ask(0, 0), 1);
        row(5);
        x.move(3, 0, 4);
        due("d sooner", x.ask(0, 0), 3);
        row(4);
    }

    void p46TheLastOfNine() {
        nine();
        roads("ai@98;ia@99");
        due("i", x.ask(0, 0), 8);
        row(99);
        due("a", x.ask(8, 98), 0);
        row(99);
    }

    // ---- promise 47: gossip

    void p47Others() {
        fresh(ROADS);
        markRow();
        for (int p : NO_PEOPLE) {
            due("from " + p, x.gossip(p, 0, 99), -1);
        }
        for (int hour : NO_HOURS) {
            due("hour " + hour, x.gossip(0, hour, 99), -1);
            due("by " + hour, x.gossip(0, 0, hour), -1);
        }
        due("by ahead of hour", x.gossip(0, 5, 4), -1);
        due("by 0 ahead of 1", x.gossip(0, 1, 0), -1);
        due("both 100", x.gossip(0, 100, 100), -1);
        rowStays();
    }

    void p47OneKnowsItAtOnce() {
        fresh("9;1;1;ab@50;bc@51");
        due("alone", x.gossip(0, 49, 49), 1);
        row(49);
        due("alone till then", x.gossip(0, 0, 49), 1);
        row(0);
        due("tells it at once", x.gossip(0, 50, 50), 3);
        row(50);
        due("not ahead of it", x.gossip(0, 51, 99), 1);
        row(51);
    }

    void p47ByTheHourItself() {
        fresh("1;1;1;ab@50;bc@51;ac@99");
        due("by 50", x.gossip(0, 0, 50), 3);
        row(50);
        due("by 51", x.gossip(0, 0, 51), 7);
        row(51);
        x.slow(1, 2);
        due("by 98", x.gossip(0, 0, 98), 3);
        row(50);
        due("by 99", x.gossip(0, 0, 99), 7);
        row(99);
    }

    void p47ReadsHoursBehindHearingIt() {
        fresh("1;3;1;1;ab@10;bc@12;bd@13");
        due("d alone", x.gossip(0, 0, 99), 11);
        row(13);
        x.slow(1, 2);
        due("c, too", x.gossip(0, 0, 99), 15);
        x.slow(1, 4);
        due("neither", x.gossip(0, 0, 99), 3);
        row(10);
    }

    void p47AtEachMeetingToAll() {
        nine();
        roads("ab@1;ac@2;ad@3;ae@4;af@5;ag@6;ah@7;ai@8");
        due("all nine", x.gossip(0, 1, 8), 511);
        row(8);
        due("but the last", x.gossip(0, 1, 7), 255);
        row(7);
    }

    void p47Hour99() {
        fresh("1;1;ab@99");
        due("at 99 by 99", x.gossip(0, 99, 99), 3);
        row(99);
        due("at 0 by 99", x.gossip(1, 0, 99), 3);
        row(99);
    }

    // ---- promise 48: postman

    void p48Others() {
        fresh(ROADS);
        markRow();
        for (int hour : NO_HOURS) {
            due("hour " + hour, x.postman(hour, 99), -1);
            due("by " + hour, x.postman(0, hour), -1);
        }
        due("by ahead of hour", x.postman(5, 4), -1);
        rowStays();
    }

    void p48Nobody() {
        due("nobody", x.postman(0, 99), -2);
        due("nobody", x.postman(99, 99), -2);
        due("others ahead of it", x.postman(100, 100), -1);
        row();
    }

    void p48OneAlone() {
        fresh("1");
        due("one", x.postman(0, 0), 0);
        row(1);
    }

    void p48OfEqualOnesTheFirst() {
        fresh("1;1;1;1;cd@5;cb@7;bd@9");
        due("all alone", x.postman(0, 4), 0);
        row(1);
        due("c and d", x.postman(0, 5), 2);
        row(2);
        due("c and d alike", x.postman(0, 7), 2);
        row(3);
        due("b and d", x.postman(6, 9), 1);
        row(3);
    }

    void p48TheLastOfNine() {
        nine();
        roads("ia@1;ib@2;ic@3;id@4;ie@5;if@6;ig@7;ih@8");
        x.slow(8, 9);
        due("i", x.postman(0, 8), 8);
        row(9);
    }

    // ---- promise 49: heralds

    void p49Others() {
        fresh(ROADS);
        markRow();
        for (int hour : NO_HOURS) {
            due("hour " + hour, x.heralds(hour, 99), -1);
            due("by " + hour, x.heralds(0, hour), -1);
        }
        due("by ahead of hour", x.heralds(5, 4), -1);
        rowStays();
    }

    void p49ZeroWithoutPeople() {
        due("0", x.heralds(0, 99), 0);
        row(0);
        due("others ahead of it", x.heralds(0, 100), -1);
        row(0);
    }

    void p49OneAlone() {
        fresh("1");
        due("1", x.heralds(99, 99), 1);
        row(1);
    }

    void p49AllOfThem() {
        nine();
        due("9", x.heralds(0, 99), 9);
        row(511);
        roads("hi@99");
        due("9 by 98", x.heralds(0, 98), 9);
        row(511);
        due("8 by 99", x.heralds(0, 99), 8);
        row(255);
    }

    void p49OneForAll() {
        nine();
        roads("ia@1;ib@2;ic@3;id@4;ie@5;if@6;ig@7;ih@8");
        x.slow(8, 9);
        due("i", x.heralds(0, 8), 1);
        row(256);
        due("and another one", x.heralds(0, 7), 2);
        row(384);
    }

    void p49OfAsFewTheLeast() {
        fresh("1;1;1;1;1;de@5;bc@5");
        due("three", x.heralds(5, 5), 3);
        row(11);
        roads("ad@3;ac@3");
        due("a alone", x.heralds(0, 5), 1);
        row(1);
        due("three again", x.heralds(4, 5), 3);
        row(11);
    }
}
