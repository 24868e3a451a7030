import java.util.NoSuchElementException;

/**
 * Letters that go open from hand to hand, and to which whoever reads one adds a line.
 *
 * <p>Everything that an answer needs is made once, in the constructors, and used again: no call of
 * the face makes an object, but for an exception that it throws.
 */
public final class EachAddsALine {
    public static final int NONE = -1;

    private static final int CANNOT = -2;
    private static final int MOST_PEOPLE = 9;
    private static final int MOST_READING = 9;
    private static final int MOST_MEETINGS = 20;
    private static final int LAST_HOUR = 99;
    private static final int HIGHEST_PRICE = 9;
    private static final int MOST_LETTERS = 3;
    private static final int MOST_LINES = 30;
    private static final int MOST_KEPT = 2;
    private static final int MOST_NUMBERS = 12;
    private static final int MOST_SIGNS = 80;
    private static final int ROADS_SIGNS = 76;
    private static final int RULE_SIGNS = 40;
    private static final int WAY_SIGNS = 30;
    private static final int DEEPEST = 4;
    private static final int LONGEST_NUMBER = 3;

    /** A place: a meeting, and which of both has the letter behind it. */
    private static final int PLACES = 2 * MOST_MEETINGS;

    /** Above every weight that a way can have. */
    private static final int FAR = 1 << 20;

    private static final int BY_HANDS = 0;
    private static final int BY_PRICE = 1;
    private static final int BY_LENGTH = 2;

    /** Above the most meetings of a way, so that a price outweighs any number of them. */
    private static final int PRICE_WEIGHT = 32;

    private static final int BYTES = 0;
    private static final int SHORTS = 1;
    private static final int MISSING_SHEET = 3;

    private final Text text = new Text();
    private final Numbers row = new Numbers();
    private final Roads roads = new Roads();
    private final RoadReader roadReader = new RoadReader(text, roads);
    private final Rule rule = new Rule();
    private final RuleReader ruleReader = new RuleReader(text, rule);
    private final Post post = new Post(roads, rule);
    private final Paths paths = new Paths(roads);
    private final Numbers told = new Numbers();
    private final Numbers laid = new Numbers();
    private final Tales tales = new Tales(roads, rule);
    private final Leaving leaving = new Leaving(tales);

    public EachAddsALine() {
    }

    // ---- the roads

    public int sign(int v) {
        return text.addFour(v) ? text.length : NONE;
    }

    public boolean end(int n) {
        return text.cutTo(n);
    }

    public int roads() {
        int answer = roadReader.readText();
        text.clear();
        return answer;
    }

    public int rule() {
        int answer = ruleReader.readText();
        text.clear();
        return answer;
    }

    public int reads(int person) {
        return roads.hasPerson(person) ? roads.reading[person] : NONE;
    }

    public int meeting(int m, int what) throws NoSuchElementException {
        if (!roads.hasMeeting(m)) {
            throw new NoSuchElementException("no such meeting");
        }
        switch (what) {
            case 0:
                return roads.first[m];
            case 1:
                return roads.second[m];
            case 2:
                return roads.hour[m];
            case 3:
                return roads.price[m];
            default:
                throw new NoSuchElementException("a meeting tells nothing else");
        }
    }

    public int slow(int person, int v) {
        if (!roads.hasPerson(person) || v < 1 || v > MOST_READING) {
            return NONE;
        }
        int old = roads.reading[person];
        roads.reading[person] = v;
        return old;
    }

    public int move(int m, int what, int v) {
        if (!roads.hasMeeting(m)) {
            return NONE;
        }
        if (what == 0 && isHour(v)) {
            return roads.putHour(m, v);
        }
        if (what == 1 && v >= 0 && v <= HIGHEST_PRICE) {
            int old = roads.price[m];
            roads.price[m] = v;
            return old;
        }
        return NONE;
    }

    public int sheet(int kind, int n, int f, int step) {
        if (kind < BYTES || kind > MISSING_SHEET || n > MOST_MEETINGS) {
            return NONE;
        }
        if (kind == MISSING_SHEET) {
            roads.putPrices(kind, 0, 0, 0);
            return -3;
        }
        if (n < 0) {
            return -2;
        }
        return roads.putPrices(kind, n, f, step);
    }

    // ---- letters

    public boolean write(int letter, int person, int hour, int line) {
        if (letter < 0 || letter >= MOST_LETTERS || !roads.hasPerson(person)) {
            return false;
        }
        if (!isHour(hour) || line < 0 || line > 9) {
            return false;
        }
        post.letters.begin(letter, person, hour, line);
        return true;
    }

    public int hand(int letter, int m) {
        if (!post.letters.isThere(letter) || !roads.hasMeeting(m)) {
            return NONE;
        }
        return post.handOn(letter, m);
    }

    public int undo(int letter) {
        return post.letters.isThere(letter) ? post.letters.takeBack(letter) : NONE;
    }

    public int lines(int letter) {
        if (!post.letters.isThere(letter)) {
            return NONE;
        }
        row.clear();
        for (int k = 0; k < post.letters.length[letter]; k++) {
            row.add(post.letters.lineAt(letter, k));
        }
        return post.letters.length[letter];
    }

    public int of(int letter, int what) {
        if (!post.letters.isThere(letter)) {
            return NONE;
        }
        Letters letters = post.letters;
        int last = letters.length[letter] - 1;
        switch (what) {
            case 0:
                return letters.holderAt(letter, 0);
            case 1:
                return letters.sinceAt(letter, 0);
            case 2:
                return letters.holderAt(letter, last);
            case 3:
                return letters.sinceAt(letter, last);
            case 4:
                return letters.readers(letter);
            default:
                return NONE;
        }
    }

    public int can(int letter) {
        return post.letters.isThere(letter) ? post.openMeetings(letter) : NONE;
    }

    public int goes(int letter, int n) {
        if (!post.letters.isThere(letter) || n < 0 || n > MOST_MEETINGS) {
            return NONE;
        }
        int times = post.passOn(letter, n);
        int last = post.letters.length[letter] - 1;
        row.clear();
        row.add(post.letters.holderAt(letter, last));
        row.add(post.letters.sinceAt(letter, last));
        return times;
    }

    public int read(int person) {
        if (!roads.hasPerson(person)) {
            return NONE;
        }
        int bits = 0;
        for (int letter = 0; letter < MOST_LETTERS; letter++) {
            if ((post.letters.readers(letter) & (1 << person)) != 0) {
                bits |= 1 << letter;
            }
        }
        return bits;
    }

    // ---- ways (a LETTER written by one at an hour 0 .. 99, to another one or to the same by at least one MEETING)

    public int soonest(int from, int to, int hour) {
        return isTrip(from, to, hour) ? soonestPast(from, to, hour, 0) : NONE;
    }

    public int latest(int from, int to, int by) {
        return isTrip(from, to, by) ? paths.latestStart(from, to, by) : NONE;
    }

    public int hands(int from, int to, int hour) {
        if (!isTrip(from, to, hour)) {
            return NONE;
        }
        paths.aim(to, LAST_HOUR, 0, BY_HANDS);
        return paths.traceFrom(from, hour, row);
    }

    public int cheapest(int from, int to, int hour) {
        return bargain(from, to, hour, LAST_HOUR);
    }

    public int without(int from, int to, int hour, int those) {
        if (!isTrip(from, to, hour) || (those & ~roads.everybody()) != 0) {
            return NONE;
        }
        return soonestPast(from, to, hour, those);
    }

    public long ways(int from, int to, int hour) {
        return isTrip(from, to, hour) ? paths.countWays(from, to, hour) : NONE;
    }

    public int needs(int from, int to, int hour) {
        return isTrip(from, to, hour) ? paths.neededMeetings(from, to, hour) : NONE;
    }

    public int idle(int from, int to, int hour) {
        return isTrip(from, to, hour) ? paths.idlePeople(from, to, hour) : NONE;
    }

    public int longest(int from, int to, int hour) {
        if (!isTrip(from, to, hour)) {
            return NONE;
        }
        paths.aim(to, LAST_HOUR, 0, BY_LENGTH);
        return paths.traceFrom(from, hour, row);
    }

    public int pairs(int hour) {
        return isHour(hour) ? paths.countPairs(hour, row) : NONE;
    }

    public int bargain(int from, int to, int hour, int by) {
        if (!isTrip(from, to, hour) || !isHour(by)) {
            return NONE;
        }
        paths.aim(to, by, 0, BY_PRICE);
        return paths.traceFrom(from, hour, row);
    }

    public int apart(int from, int to, int hour) {
        if (!isTrip(from, to, hour) || from == to) {
            return NONE;
        }
        int part = paths.leastPart(from, to, hour);
        row.clear();
        if (part == NONE) {
            return 0;
        }
        row.add(part);
        return 1;
    }

    public int far(int from, int hour) {
        if (!roads.hasPerson(from) || !isHour(hour)) {
            return NONE;
        }
        paths.spread(from, hour, 0, NONE);
        row.clear();
        int others = 0;
        for (int p = 0; p < roads.people; p++) {
            row.add(paths.arrival[p]);
            if (p != from && paths.arrival[p] != NONE) {
                others++;
            }
        }
        return others;
    }

    public int worst(int from, int to, int hour) {
        return isTrip(from, to, hour) ? paths.worstLoss(from, to, hour, row) : NONE;
    }

    public int way(int from, int hour) {
        int answer = -200;
        if (roads.hasPerson(from) && isHour(hour)) {
            int fault = wayFault();
            answer = fault == NONE ? paths.follow(text, from, hour, row) : -1 - fault;
        }
        text.clear();
        return answer;
    }

    // ---- tales: what LINES show

    public int tale() {
        int fault = taleFault();
        int answer = -1 - fault;
        if (fault == NONE) {
            told.clear();
            for (int k = 0; k < text.length; k++) {
                told.add(text.signAt(k) - '0');
            }
            answer = told.size;
        }
        text.clear();
        return answer;
    }

    public int check(int letter) {
        return post.letters.isThere(letter) ? post.firstFalse(letter) : NONE;
    }

    public int copy(int letter) {
        if (!post.letters.isThere(letter)) {
            return NONE;
        }
        told.clear();
        for (int k = 0; k < post.letters.length[letter]; k++) {
            told.add(post.letters.lineAt(letter, k));
        }
        return told.size;
    }

    public long fits(int from, int to, int hour) {
        if (!isTrip(from, to, hour)) {
            return NONE;
        }
        if (told.size == 0) {
            return CANNOT;
        }
        tales.countFits(told, to);
        tales.traceFit(from, hour, row);
        return tales.fitting(from, hour);
    }

    public int sure(int from, int to, int hour) {
        if (!isTrip(from, to, hour)) {
            return NONE;
        }
        if (told.size == 0) {
            return CANNOT;
        }
        tales.countFits(told, to);
        tales.gatherGetters(from, hour);
        row.clear();
        row.add(tales.inSome);
        return tales.inEach;
    }

    public int writers(int to, int hour) {
        if (!roads.hasPerson(to) || !isHour(hour)) {
            return NONE;
        }
        if (told.size == 0) {
            return CANNOT;
        }
        tales.countFits(told, to);
        int bits = 0;
        for (int p = 0; p < roads.people; p++) {
            if (tales.fitting(p, hour) > 0) {
                bits |= 1 << p;
            }
        }
        return bits;
    }

    public long missing(int from, int to, int hour) {
        if (!isTrip(from, to, hour)) {
            return NONE;
        }
        if (told.size == 0) {
            return CANNOT;
        }
        leaving.countAll(told, to);
        row.clear();
        row.add(leaving.leavers(from, hour, 1));
        return leaving.waysOn(from, hour, 1, 0);
    }

    public int lies(int from, int to, int hour) {
        if (!isTrip(from, to, hour)) {
            return NONE;
        }
        if (told.size == 0) {
            return CANNOT;
        }
        tales.weighLies(told, to);
        return tales.traceLies(from, hour, row);
    }

    public boolean lay() {
        laid.take(told);
        return true;
    }

    public int copies(int from, int one, int other) {
        if (!isTrip(from, one, 0) || !roads.hasPerson(other)) {
            return NONE;
        }
        if (told.size == 0 || laid.size == 0) {
            return CANNOT;
        }
        int last = NONE;
        if (told.at[0] == laid.at[0]) {
            tales.countFits(told, one);
            last = tales.latestStart(from);
            tales.countFits(laid, other);
            last = Math.min(last, tales.latestStart(from));
        }
        return tellHours(last);
    }

    public int when(int from, int to) {
        if (!isTrip(from, to, 0)) {
            return NONE;
        }
        if (told.size == 0) {
            return CANNOT;
        }
        tales.countFits(told, to);
        return tellHours(tales.latestStart(from));
    }

    // ---- answers and gossip

    public int answer(int asker, int other, int hour) {
        if (!isTrip(asker, other, hour) || asker == other) {
            return NONE;
        }
        int back = paths.answerHour(asker, other, hour);
        if (back == NONE) {
            return CANNOT;
        }
        row.clear();
        row.add(paths.asked);
        return back;
    }

    public int ask(int asker, int hour) {
        if (!roads.hasPerson(asker) || !isHour(hour)) {
            return NONE;
        }
        int best = CANNOT;
        int soonestBack = FAR;
        for (int p = 0; p < roads.people; p++) {
            int back = p == asker ? NONE : paths.answerHour(asker, p, hour);
            if (back != NONE && back < soonestBack) {
                best = p;
                soonestBack = back;
            }
        }
        if (best != CANNOT) {
            row.clear();
            row.add(soonestBack);
        }
        return best;
    }

    public int gossip(int from, int hour, int by) {
        if (!roads.hasPerson(from) || !isSpan(hour, by)) {
            return NONE;
        }
        int bits = paths.knowers(from, hour, by);
        row.clear();
        row.add(paths.heardLast);
        return bits;
    }

    public int postman(int hour, int by) {
        if (!isSpan(hour, by)) {
            return NONE;
        }
        int best = CANNOT;
        int most = 0;
        for (int p = 0; p < roads.people; p++) {
            int number = Integer.bitCount(paths.knowers(p, hour, by));
            if (number > most) {
                best = p;
                most = number;
            }
        }
        if (best != CANNOT) {
            row.clear();
            row.add(most);
        }
        return best;
    }

    public int heralds(int hour, int by) {
        if (!isSpan(hour, by)) {
            return NONE;
        }
        int those = paths.fewestHeralds(hour, by);
        row.clear();
        row.add(those);
        return Integer.bitCount(those);
    }

    // ---- kept

    public boolean keep(int i) {
        return post.store(i);
    }

    public boolean again(int i) {
        return post.fetch(i);
    }

    public int count(int what) {
        switch (what) {
            case 0:
                return roads.people;
            case 1:
                return roads.meetings;
            case 2:
                return post.letters.thereBits();
            case 3:
                return told.size;
            case 4:
                return laid.size;
            case 5:
                return row.size;
            case 6:
                return text.length;
            default:
                return NONE;
        }
    }

    public int row(int i) throws NoSuchElementException {
        if (i < 0 || i >= row.size) {
            throw new NoSuchElementException("the row has no such number");
        }
        return row.at[i];
    }

    // ---- what several calls of the face ask

    private static boolean isHour(int v) {
        return v >= 0 && v <= LAST_HOUR;
    }

    private static boolean isSpan(int hour, int by) {
        return isHour(hour) && by >= hour && by <= LAST_HOUR;
    }

    private boolean isTrip(int from, int to, int hour) {
        return roads.hasPerson(from) && roads.hasPerson(to) && isHour(hour);
    }

    private int soonestPast(int from, int to, int hour, int shut) {
        paths.spread(from, hour, shut, NONE);
        int came = paths.arrival[to];
        if (came == NONE) {
            return CANNOT;
        }
        paths.aim(to, came, shut, BY_HANDS);
        paths.traceFrom(from, hour, row);
        return came;
    }

    /** The first sign that can't stand in a text of a way, or NONE. */
    private int wayFault() {
        for (int p = 0; p < text.length; p++) {
            if (p >= WAY_SIGNS || !roads.hasPerson(text.signAt(p) - 'a')) {
                return p;
            }
        }
        return NONE;
    }

    /** The first sign that can't stand in a text of a tale, or NONE. */
    private int taleFault() {
        for (int p = 0; p < text.length; p++) {
            if (p >= MOST_NUMBERS || !Text.isDigit(text.signAt(p))) {
                return p;
            }
        }
        return NONE;
    }

    /** Whoever could write it at an hour could have written it at any hour before: 0 is the first. */
    private int tellHours(int last) {
        row.clear();
        if (last == NONE) {
            return 0;
        }
        row.add(0);
        row.add(last);
        return last + 1;
    }

    /** The signs that calls read. */
    private static final class Text {
        private final char[] signs = new char[MOST_SIGNS];
        int length;

        boolean addFour(int v) {
            if (length > MOST_SIGNS - 4) {
                return false;
            }
            for (int shift = 24; shift >= 0; shift -= 8) {
                signs[length] = (char) ((v >>> shift) & 255);
                length++;
            }
            return true;
        }

        boolean cutTo(int n) {
            if (n < 0 || n > length) {
                return false;
            }
            length = n;
            return true;
        }

        void clear() {
            length = 0;
        }

        /** A sign, or NONE where there is none. */
        int signAt(int p) {
            return p >= 0 && p < length ? signs[p] : NONE;
        }

        static boolean isDigit(int c) {
            return c >= '0' && c <= '9';
        }
    }

    /** A row or a tale: the first numbers of it; those for which there is no room are left aside. */
    private static final class Numbers {
        final int[] at = new int[MOST_NUMBERS];
        int size;

        void clear() {
            size = 0;
        }

        void add(int v) {
            if (size < MOST_NUMBERS) {
                at[size] = v;
                size++;
            }
        }

        void take(Numbers other) {
            System.arraycopy(other.at, 0, at, 0, MOST_NUMBERS);
            size = other.size;
        }
    }

    /** People and meetings. */
    private static final class Roads {
        final int[] reading = new int[MOST_PEOPLE];
        final int[] first = new int[MOST_MEETINGS];
        final int[] second = new int[MOST_MEETINGS];
        final int[] hour = new int[MOST_MEETINGS];
        final int[] price = new int[MOST_MEETINGS];

        /** The meetings by hour, then by number: who hands on at one got it at one ahead of it. */
        final int[] byHour = new int[MOST_MEETINGS];
        int people;
        int meetings;

        boolean hasPerson(int p) {
            return p >= 0 && p < people;
        }

        boolean hasMeeting(int m) {
            return m >= 0 && m < meetings;
        }

        int everybody() {
            return (1 << people) - 1;
        }

        boolean isAt(int person, int m) {
            return first[m] == person || second[m] == person;
        }

        int otherAt(int m, int person) {
            return first[m] == person ? second[m] : first[m];
        }

        int placeOf(int m, int getter) {
            return first[m] == getter ? 2 * m : 2 * m + 1;
        }

        int getterAt(int place) {
            return (place & 1) == 0 ? first[place >> 1] : second[place >> 1];
        }

        /** From when on who got it at a place can hand it on. */
        int readyAt(int place) {
            return hour[place >> 1] + reading[getterAt(place)];
        }

        int putHour(int m, int v) {
            int old = hour[m];
            hour[m] = v;
            sortByHour();
            return old;
        }

        void grow(int newPeople, int newMeetings) {
            people = newPeople;
            meetings = newMeetings;
            sortByHour();
        }

        private void sortByHour() {
            for (int m = 0; m < meetings; m++) {
                int k = m;
                while (k > 0 && hour[byHour[k - 1]] > hour[m]) {
                    byHour[k] = byHour[k - 1];
                    k--;
                }
                byHour[k] = m;
            }
        }

        int putPrices(int kind, int n, int f, int step) {
            int sum = 0;
            for (int m = 0; m < meetings; m++) {
                price[m] = m < n ? priceFrom(kind, f + m * step) : 0;
                sum += price[m];
            }
            return sum;
        }

        private static int priceFrom(int kind, int entry) {
            int v = entry;
            if (kind == BYTES) {
                v = (byte) entry;
            } else if (kind == SHORTS) {
                v = (short) entry;
            }
            return Math.max(0, Math.min(HIGHEST_PRICE, v));
        }
    }

    /** Reads a text of roads. What it reads stands behind what is there and counts only when all of it can stand. */
    private static final class RoadReader {
        private final Text text;
        private final Roads roads;
        private int at;
        private int people;
        private int meetings;

        RoadReader(Text text, Roads roads) {
            this.text = text;
            this.roads = roads;
        }

        /** How many lines, or -1 less the place of the first sign that can't stand. */
        int readText() {
            if (text.length == 0) {
                return 0;
            }
            at = 0;
            people = roads.people;
            meetings = roads.meetings;
            if (!readLines() || at < text.length) {
                return -1 - at;
            }
            int told = people - roads.people + meetings - roads.meetings;
            roads.grow(people, meetings);
            return told;
        }

        private boolean readLines() {
            for (int k = 0; k <= ROADS_SIGNS; k++) {
                if (!readLine()) {
                    return false;
                }
                if (next() == NONE) {
                    return true;
                }
                if (next() != ';') {
                    return false;
                }
                at++;
            }
            return false;
        }

        private int next() {
            return at < ROADS_SIGNS ? text.signAt(at) : NONE;
        }

        private boolean readLine() {
            return next() >= '1' && next() <= '9' ? readPerson() : readMeeting();
        }

        private boolean readPerson() {
            if (people >= MOST_PEOPLE) {
                return false;
            }
            roads.reading[people] = next() - '0';
            people++;
            at++;
            return true;
        }

        private boolean readMeeting() {
            int one = next() - 'a';
            if (meetings >= MOST_MEETINGS || !isPerson(one)) {
                return false;
            }
            at++;
            int other = next() - 'a';
            if (!isPerson(other) || other == one) {
                return false;
            }
            at++;
            if (next() != '@') {
                return false;
            }
            at++;
            roads.first[meetings] = one;
            roads.second[meetings] = other;
            if (!readHour() || !readPrice()) {
                return false;
            }
            meetings++;
            return true;
        }

        private boolean isPerson(int p) {
            return p >= 0 && p < people;
        }

        private boolean readHour() {
            if (!Text.isDigit(next())) {
                return false;
            }
            int hour = next() - '0';
            at++;
            if (Text.isDigit(next())) {
                hour = 10 * hour + next() - '0';
                at++;
            }
            roads.hour[meetings] = hour;
            return true;
        }

        private boolean readPrice() {
            roads.price[meetings] = 0;
            if (next() != '*') {
                return true;
            }
            at++;
            if (!Text.isDigit(next())) {
                return false;
            }
            roads.price[meetings] = next() - '0';
            at++;
            return true;
        }
    }

    /** The rule, kept as what is to be done behind one another: things first, then what binds them. */
    private static final class Rule {
        static final int PERSON = 0;
        static final int GIVER = 1;
        static final int HOUR = 2;
        static final int AHEAD = 3;
        static final int FIRST = 4;
        static final int LAST = 5;
        static final int SUM = 6;
        static final int FACT = 1000;
        static final int TASK = 2000;
        static final int NEGATE = TASK + '~';

        final int[] code = new int[RULE_SIGNS];
        int size;
        private final int[] facts = new int[7];
        private final int[] stack = new int[RULE_SIGNS];
        private int height;

        /** What is there ahead of the line: how many lines, the first, the last, their sum. */
        void putAhead(int number, int firstLine, int lastLine, int sum) {
            facts[AHEAD] = number;
            facts[FIRST] = firstLine;
            facts[LAST] = lastLine;
            facts[SUM] = sum;
        }

        /** The line that one adds to what putAhead() told last. */
        int lineBy(int person, int giver, int hour) {
            facts[PERSON] = person;
            facts[GIVER] = giver;
            facts[HOUR] = hour;
            return Math.floorMod(size == 0 ? facts[AHEAD] : value(), 10);
        }

        private int value() {
            height = 0;
            for (int k = 0; k < size; k++) {
                int c = code[k];
                if (c < FACT) {
                    push(c);
                } else if (c < TASK) {
                    push(factAt(c - FACT));
                } else if (c == NEGATE) {
                    push(-pop());
                } else {
                    int right = pop();
                    int left = pop();
                    push(join(c - TASK, left, right));
                }
            }
            return pop();
        }

        private int factAt(int k) {
            return k >= 0 && k < facts.length ? facts[k] : 0;
        }

        private void push(int v) {
            if (height < stack.length) {
                stack[height] = v;
                height++;
            }
        }

        private int pop() {
            if (height <= 0) {
                return 0;
            }
            height--;
            return stack[height];
        }

        private static int join(int sign, int left, int right) {
            switch (sign) {
                case '<':
                    return left < right ? 1 : 0;
                case '>':
                    return left > right ? 1 : 0;
                case '=':
                    return left == right ? 1 : 0;
                case '+':
                    return left + right;
                case '-':
                    return left - right;
                case '*':
                    return left * right;
                default:
                    return right == 0 ? 0 : left / right;
            }
        }
    }

    /** Reads a text of the rule into a code of its own, so that a text that can't stand leaves the rule as it was. */
    private static final class RuleReader {
        private final Text text;
        private final Rule rule;
        private final int[] code = new int[RULE_SIGNS];
        private int size;
        private int at;

        RuleReader(Text text, Rule rule) {
            this.text = text;
            this.rule = rule;
        }

        /** 0, or -1 less the place of the first sign that can't stand. */
        int readText() {
            at = 0;
            size = 0;
            if (text.length > 0 && (!readExpression(0) || at < text.length)) {
                return -1 - at;
            }
            System.arraycopy(code, 0, rule.code, 0, size);
            rule.size = size;
            return 0;
        }

        private int next() {
            return at < RULE_SIGNS ? text.signAt(at) : NONE;
        }

        private void emit(int c) {
            if (size < code.length) {
                code[size] = c;
                size++;
            }
        }

        private boolean readExpression(int depth) {
            if (!readSum(depth)) {
                return false;
            }
            int sign = next();
            if (sign != '<' && sign != '>' && sign != '=') {
                return true;
            }
            at++;
            if (!readSum(depth)) {
                return false;
            }
            emit(Rule.TASK + sign);
            return true;
        }

        private boolean readSum(int depth) {
            if (!readProduct(depth)) {
                return false;
            }
            for (int k = 0; k < RULE_SIGNS; k++) {
                int sign = next();
                if (sign != '+' && sign != '-') {
                    return true;
                }
                at++;
                if (!readProduct(depth)) {
                    return false;
                }
                emit(Rule.TASK + sign);
            }
            return true;
        }

        private boolean readProduct(int depth) {
            if (!readSigned(depth)) {
                return false;
            }
            for (int k = 0; k < RULE_SIGNS; k++) {
                int sign = next();
                if (sign != '*' && sign != '/') {
                    return true;
                }
                at++;
                if (!readSigned(depth)) {
                    return false;
                }
                emit(Rule.TASK + sign);
            }
            return true;
        }

        private boolean readSigned(int depth) {
            int minuses = 0;
            for (int k = 0; k < RULE_SIGNS && next() == '-'; k++) {
                minuses++;
                at++;
            }
            if (!readThing(depth)) {
                return false;
            }
            for (int k = 0; k < minuses; k++) {
                emit(Rule.NEGATE);
            }
            return true;
        }

        private boolean readThing(int depth) {
            int c = next();
            if (Text.isDigit(c)) {
                readNumber();
                return true;
            }
            if (c == '(') {
                return readBraced(depth);
            }
            int fact = factOf(c);
            if (fact == NONE) {
                return false;
            }
            emit(Rule.FACT + fact);
            at++;
            return true;
        }

        private static int factOf(int c) {
            switch (c) {
                case 'i':
                    return Rule.PERSON;
                case 'g':
                    return Rule.GIVER;
                case 'h':
                    return Rule.HOUR;
                case 'n':
                    return Rule.AHEAD;
                case 'f':
                    return Rule.FIRST;
                case 'l':
                    return Rule.LAST;
                case 's':
                    return Rule.SUM;
                default:
                    return NONE;
            }
        }

        private void readNumber() {
            int v = 0;
            for (int k = 0; k < LONGEST_NUMBER && Text.isDigit(next()); k++) {
                v = 10 * v + next() - '0';
                at++;
            }
            emit(v);
        }

        private boolean readBraced(int depth) {
            if (depth >= DEEPEST) {
                return false;
            }
            at++;
            if (!readExpression(depth + 1) || next() != ')') {
                return false;
            }
            at++;
            return true;
        }
    }

    /** What stands on the letters: line by line who added it and when. */
    private static final class Letters {
        final int[] length = new int[MOST_LETTERS];
        private final int[] holder = new int[MOST_LETTERS * MOST_LINES];
        private final int[] since = new int[MOST_LETTERS * MOST_LINES];
        private final int[] line = new int[MOST_LETTERS * MOST_LINES];

        boolean isThere(int letter) {
            return letter >= 0 && letter < MOST_LETTERS && length[letter] > 0;
        }

        int thereBits() {
            int bits = 0;
            for (int letter = 0; letter < MOST_LETTERS; letter++) {
                if (length[letter] > 0) {
                    bits |= 1 << letter;
                }
            }
            return bits;
        }

        void begin(int letter, int person, int hour, int firstLine) {
            length[letter] = 0;
            add(letter, person, hour, firstLine);
        }

        void add(int letter, int person, int hour, int newLine) {
            if (length[letter] >= MOST_LINES) {
                return;
            }
            int at = letter * MOST_LINES + length[letter];
            holder[at] = person;
            since[at] = hour;
            line[at] = newLine;
            length[letter]++;
        }

        int takeBack(int letter) {
            if (length[letter] <= 1) {
                return NONE;
            }
            length[letter]--;
            return length[letter] - 1;
        }

        int holderAt(int letter, int k) {
            return holder[letter * MOST_LINES + k];
        }

        int sinceAt(int letter, int k) {
            return since[letter * MOST_LINES + k];
        }

        int lineAt(int letter, int k) {
            return line[letter * MOST_LINES + k];
        }

        int readers(int letter) {
            int bits = 0;
            for (int k = 0; k < length[letter]; k++) {
                bits |= 1 << holderAt(letter, k);
            }
            return bits;
        }

        void take(Letters other) {
            System.arraycopy(other.length, 0, length, 0, length.length);
            System.arraycopy(other.holder, 0, holder, 0, holder.length);
            System.arraycopy(other.since, 0, since, 0, since.length);
            System.arraycopy(other.line, 0, line, 0, line.length);
        }
    }

    /** Hands letters on, keeps them and has them again. */
    private static final class Post {
        final Letters letters = new Letters();
        private final Roads roads;
        private final Rule rule;
        private final Letters[] kept = new Letters[MOST_KEPT];
        private final boolean[] isKept = new boolean[MOST_KEPT];

        Post(Roads roads, Rule rule) {
            this.roads = roads;
            this.rule = rule;
            for (int i = 0; i < MOST_KEPT; i++) {
                kept[i] = new Letters();
            }
        }

        boolean store(int i) {
            if (i < 0 || i >= MOST_KEPT) {
                return false;
            }
            kept[i].take(letters);
            isKept[i] = true;
            return true;
        }

        boolean fetch(int i) {
            if (i < 0 || i >= MOST_KEPT || !isKept[i]) {
                return false;
            }
            letters.take(kept[i]);
            return true;
        }

        int handOn(int letter, int m) {
            int last = letters.length[letter] - 1;
            int giver = letters.holderAt(letter, last);
            if (!roads.isAt(giver, m)) {
                return -2;
            }
            if (roads.hour[m] < readyHour(letter)) {
                return -3;
            }
            if (letters.length[letter] >= MOST_LINES) {
                return -4;
            }
            int getter = roads.otherAt(m, giver);
            putAhead(letter, last + 1);
            int line = rule.lineBy(getter, giver, roads.hour[m]);
            letters.add(letter, getter, roads.hour[m], line);
            return line;
        }

        int openMeetings(int letter) {
            int bits = 0;
            for (int m = 0; m < roads.meetings; m++) {
                if (canHand(letter, m)) {
                    bits |= 1 << m;
                }
            }
            return bits;
        }

        int passOn(int letter, int n) {
            for (int times = 0; times < n; times++) {
                int m = nextMeeting(letter);
                if (m == NONE) {
                    return times;
                }
                handOn(letter, m);
            }
            return n;
        }

        /** The first line that is not by the rule, or CANNOT. */
        int firstFalse(int letter) {
            for (int k = 1; k < letters.length[letter]; k++) {
                putAhead(letter, k);
                int giver = letters.holderAt(letter, k - 1);
                int due = rule.lineBy(letters.holderAt(letter, k), giver, letters.sinceAt(letter, k));
                if (due != letters.lineAt(letter, k)) {
                    return k;
                }
            }
            return CANNOT;
        }

        private int nextMeeting(int letter) {
            int giver = letters.holderAt(letter, letters.length[letter] - 1);
            int readers = letters.readers(letter);
            for (int k = 0; k < roads.meetings; k++) {
                int m = roads.byHour[k];
                if (canHand(letter, m) && (readers & (1 << roads.otherAt(m, giver))) == 0) {
                    return m;
                }
            }
            return NONE;
        }

        private boolean canHand(int letter, int m) {
            int giver = letters.holderAt(letter, letters.length[letter] - 1);
            return letters.length[letter] < MOST_LINES && roads.isAt(giver, m) && roads.hour[m] >= readyHour(letter);
        }

        /** Who wrote it has it at once; others have to read it. */
        private int readyHour(int letter) {
            int last = letters.length[letter] - 1;
            int since = letters.sinceAt(letter, last);
            return last == 0 ? since : since + roads.reading[letters.holderAt(letter, last)];
        }

        private void putAhead(int letter, int number) {
            int sum = 0;
            for (int k = 0; k < number; k++) {
                sum += letters.lineAt(letter, k);
            }
            rule.putAhead(number, letters.lineAt(letter, 0), letters.lineAt(letter, number - 1), sum);
        }
    }

    /** By which ways, and when, a letter can come. */
    private static final class Paths {
        /** The least hour at which one got it in the last spread(), or NONE. */
        final int[] arrival = new int[MOST_PEOPLE];

        /** When the letter that asks came, in the last answerHour(). */
        int asked;

        /** When the last of them heard it, in the last knowers(). */
        int heardLast;

        private final Roads roads;

        /** By place: the least weight of the meetings that are still to come, or FAR. */
        private final int[] rest = new int[PLACES];
        private final long[] number = new long[PLACES];
        private final int[] known = new int[MOST_PEOPLE];
        private int measure;

        Paths(Roads roads) {
            this.roads = roads;
        }

        /** The soonest arrivals, if those that are shut hand nothing on and one meeting (or NONE) is gone. */
        void spread(int from, int hour, int shut, int gone) {
            for (int p = 0; p < roads.people; p++) {
                arrival[p] = NONE;
            }
            for (int k = 0; k < roads.meetings; k++) {
                int m = roads.byHour[k];
                if (m != gone && roads.hour[m] >= hour) {
                    tell(m, roads.first[m], from, shut);
                    tell(m, roads.second[m], from, shut);
                }
            }
        }

        private void tell(int m, int giver, int from, int shut) {
            int getter = roads.otherAt(m, giver);
            boolean isOpen = (shut & (1 << giver)) == 0;
            if (arrival[getter] == NONE && (giver == from || isOpen && hasRead(giver, roads.hour[m]))) {
                arrival[getter] = roads.hour[m];
            }
        }

        private boolean hasRead(int person, int hour) {
            return arrival[person] != NONE && arrival[person] + roads.reading[person] <= hour;
        }

        /** Weighs from the last meetings on, so that what comes behind a place is weighed ahead of it. */
        void aim(int to, int by, int shut, int newMeasure) {
            measure = newMeasure;
            for (int k = roads.meetings - 1; k >= 0; k--) {
                int m = roads.byHour[k];
                rest[2 * m] = restAt(2 * m, to, by, shut);
                rest[2 * m + 1] = restAt(2 * m + 1, to, by, shut);
            }
        }

        private int restAt(int place, int to, int by, int shut) {
            int getter = roads.getterAt(place);
            boolean isEnd = getter == to && roads.hour[place >> 1] <= by;
            int least = isEnd ? 0 : FAR;
            if ((shut & (1 << getter)) != 0) {
                return least;
            }
            return Math.min(least, leastFrom(getter, roads.readyAt(place)));
        }

        private int leastFrom(int giver, int ready) {
            int least = FAR;
            for (int m = 0; m < roads.meetings; m++) {
                least = Math.min(least, weightBy(m, giver, ready));
            }
            return least;
        }

        /** What a way weighs from a meeting on, or FAR if one can't hand it on there. */
        private int weightBy(int m, int giver, int ready) {
            if (!roads.isAt(giver, m) || roads.hour[m] < ready) {
                return FAR;
            }
            int behind = rest[roads.placeOf(m, roads.otherAt(m, giver))];
            return behind == FAR ? FAR : behind + weightOf(m);
        }

        private int weightOf(int m) {
            if (measure == BY_PRICE) {
                return PRICE_WEIGHT * roads.price[m] + 1;
            }
            return measure == BY_LENGTH ? -1 : 1;
        }

        /** Tells the least row of the ways that weigh least; answers what was measured, or CANNOT. */
        int traceFrom(int from, int hour, Numbers row) {
            int left = leastFrom(from, hour);
            if (left == FAR) {
                return CANNOT;
            }
            int whole = left;
            int giver = from;
            int ready = hour;
            row.clear();
            for (int k = 0; k < roads.meetings && left != 0; k++) {
                int m = stepFrom(giver, ready, left);
                if (m == NONE) {
                    break;
                }
                row.add(m);
                giver = roads.otherAt(m, giver);
                ready = roads.readyAt(roads.placeOf(m, giver));
                left -= weightOf(m);
            }
            return measured(whole);
        }

        private int stepFrom(int giver, int ready, int left) {
            for (int m = 0; m < roads.meetings; m++) {
                if (weightBy(m, giver, ready) == left) {
                    return m;
                }
            }
            return NONE;
        }

        private int measured(int whole) {
            if (measure == BY_PRICE) {
                return whole / PRICE_WEIGHT;
            }
            return measure == BY_LENGTH ? -whole : whole;
        }

        int latestStart(int from, int to, int by) {
            aim(to, by, 0, BY_HANDS);
            int latest = CANNOT;
            for (int m = 0; m < roads.meetings; m++) {
                if (weightBy(m, from, 0) != FAR) {
                    latest = Math.max(latest, roads.hour[m]);
                }
            }
            return latest;
        }

        long countWays(int from, int to, int hour) {
            for (int k = roads.meetings - 1; k >= 0; k--) {
                int m = roads.byHour[k];
                number[2 * m] = waysBehind(2 * m, to);
                number[2 * m + 1] = waysBehind(2 * m + 1, to);
            }
            return waysOn(from, hour);
        }

        private long waysBehind(int place, int to) {
            int getter = roads.getterAt(place);
            return (getter == to ? 1 : 0) + waysOn(getter, roads.readyAt(place));
        }

        private long waysOn(int giver, int ready) {
            long sum = 0;
            for (int m = 0; m < roads.meetings; m++) {
                if (roads.isAt(giver, m) && roads.hour[m] >= ready) {
                    sum += number[roads.placeOf(m, roads.otherAt(m, giver))];
                }
            }
            return sum;
        }

        int neededMeetings(int from, int to, int hour) {
            spread(from, hour, 0, NONE);
            if (arrival[to] == NONE) {
                return 0;
            }
            int bits = 0;
            for (int m = 0; m < roads.meetings; m++) {
                spread(from, hour, 0, m);
                if (arrival[to] == NONE) {
                    bits |= 1 << m;
                }
            }
            return bits;
        }

        int idlePeople(int from, int to, int hour) {
            aim(to, LAST_HOUR, 0, BY_HANDS);
            spread(from, hour, 0, NONE);
            int busy = (1 << from) | (1 << to);
            for (int place = 0; place < 2 * roads.meetings; place++) {
                int m = place >> 1;
                int getter = roads.getterAt(place);
                int giver = roads.otherAt(m, getter);
                boolean isGiven = giver == from ? roads.hour[m] >= hour : hasRead(giver, roads.hour[m]);
                if (isGiven && rest[place] != FAR) {
                    busy |= 1 << getter;
                }
            }
            return roads.everybody() & ~busy;
        }

        int countPairs(int hour, Numbers row) {
            int pairs = 0;
            int last = NONE;
            row.clear();
            for (int from = 0; from < roads.people; from++) {
                spread(from, hour, 0, NONE);
                for (int to = 0; to < roads.people; to++) {
                    if (to == from || arrival[to] == NONE) {
                        continue;
                    }
                    pairs++;
                    if (arrival[to] > last) {
                        last = arrival[to];
                        row.clear();
                        row.add(from);
                        row.add(to);
                        row.add(last);
                    }
                }
            }
            return pairs;
        }

        /** The least set of those between for a first way that leaves the others for a second, or NONE. */
        int leastPart(int from, int to, int hour) {
            int between = roads.everybody() & ~(1 << from) & ~(1 << to);
            for (int part = 0; part <= between; part++) {
                boolean isPart = (part & ~between) == 0;
                if (isPart && comesBy(from, to, hour, part) && comesBy(from, to, hour, between & ~part)) {
                    return part;
                }
            }
            return NONE;
        }

        private boolean comesBy(int from, int to, int hour, int between) {
            spread(from, hour, ~between, NONE);
            return arrival[to] != NONE;
        }

        int worstLoss(int from, int to, int hour, Numbers row) {
            spread(from, hour, 0, NONE);
            if (arrival[to] == NONE) {
                return CANNOT;
            }
            int worst = CANNOT;
            int latest = NONE;
            for (int m = 0; m < roads.meetings; m++) {
                spread(from, hour, 0, m);
                int came = arrival[to] == NONE ? FAR : arrival[to];
                if (came > latest) {
                    latest = came;
                    worst = m;
                }
            }
            row.clear();
            row.add(latest == FAR ? NONE : latest);
            return worst;
        }

        /** Follows a text of letters of people; answers the last hour, or -100 less the letter that can't get it. */
        int follow(Text text, int from, int hour, Numbers row) {
            int giver = from;
            int ready = hour;
            int came = hour;
            for (int k = 0; k < text.length; k++) {
                int m = meetingOf(giver, text.signAt(k) - 'a', ready);
                if (m == NONE) {
                    return -100 - k;
                }
                giver = text.signAt(k) - 'a';
                came = roads.hour[m];
                ready = roads.readyAt(roads.placeOf(m, giver));
            }
            tellFollowed(text, from, hour, row);
            return came;
        }

        /** Once it is known that all can get it: the row must stay as it is if one can't. */
        private void tellFollowed(Text text, int from, int hour, Numbers row) {
            int giver = from;
            int ready = hour;
            row.clear();
            for (int k = 0; k < text.length; k++) {
                int getter = text.signAt(k) - 'a';
                int m = meetingOf(giver, getter, ready);
                if (m == NONE) {
                    return;
                }
                row.add(m);
                giver = getter;
                ready = roads.readyAt(roads.placeOf(m, giver));
            }
        }

        private int meetingOf(int giver, int getter, int ready) {
            if (giver == getter) {
                return NONE;
            }
            for (int k = 0; k < roads.meetings; k++) {
                int m = roads.byHour[k];
                if (roads.hour[m] >= ready && roads.isAt(giver, m) && roads.isAt(getter, m)) {
                    return m;
                }
            }
            return NONE;
        }

        int answerHour(int asker, int other, int hour) {
            spread(asker, hour, 0, NONE);
            int came = arrival[other];
            if (came == NONE) {
                return NONE;
            }
            asked = came;
            spread(other, came + roads.reading[other], 0, NONE);
            return arrival[asker];
        }

        /** Who knows by an hour what one knew. */
        int knowers(int from, int hour, int by) {
            spread(from, hour, 0, NONE);
            int bits = 1 << from;
            heardLast = hour;
            for (int p = 0; p < roads.people; p++) {
                if (p != from && arrival[p] != NONE && arrival[p] <= by) {
                    bits |= 1 << p;
                    heardLast = Math.max(heardLast, arrival[p]);
                }
            }
            return bits;
        }

        /** The fewest, of as few the least as bits, who make all know it. */
        int fewestHeralds(int hour, int by) {
            for (int p = 0; p < roads.people; p++) {
                known[p] = knowers(p, hour, by);
            }
            int best = roads.everybody();
            for (int those = 0; those < roads.everybody(); those++) {
                if (Integer.bitCount(those) < Integer.bitCount(best) && knownFrom(those) == roads.everybody()) {
                    best = those;
                }
            }
            return best;
        }

        private int knownFrom(int those) {
            int bits = 0;
            for (int p = 0; p < roads.people; p++) {
                if ((those & (1 << p)) != 0) {
                    bits |= known[p];
                }
            }
            return bits;
        }
    }

    /**
     * By which ways a tale can have come. The lines ahead are told, so what the rule has for a line
     * hangs on its number and its place alone; rows below are by both: number * PLACES + place.
     */
    private static final class Tales {
        /** Who got it in some, in each of the ways, in the last gatherGetters(). */
        int inSome;
        int inEach;

        final Roads roads;
        private final Rule rule;
        private final boolean[] right = new boolean[MOST_NUMBERS * PLACES];
        private final long[] number = new long[MOST_NUMBERS * PLACES];
        private final int[] some = new int[MOST_NUMBERS * PLACES];
        private final int[] each = new int[MOST_NUMBERS * PLACES];
        private final int[] lies = new int[MOST_NUMBERS * PLACES];
        private int length;
        private int goal;

        Tales(Roads roads, Rule rule) {
            this.roads = roads;
            this.rule = rule;
        }

        /** Whether a line of the tale is what the rule has at a place. */
        boolean isRight(int k, int place) {
            return k < length && right[k * PLACES + place];
        }

        /** For the lines of a tale and who has it: what the rule has, place by place. */
        void judge(Numbers tale, int to) {
            length = tale.size;
            goal = to;
            int sum = 0;
            for (int k = 1; k < length; k++) {
                sum += tale.at[k - 1];
                rule.putAhead(k, tale.at[0], tale.at[k - 1], sum);
                for (int place = 0; place < 2 * roads.meetings; place++) {
                    int m = place >> 1;
                    int getter = roads.getterAt(place);
                    int line = rule.lineBy(getter, roads.otherAt(m, getter), roads.hour[m]);
                    right[k * PLACES + place] = line == tale.at[k];
                }
            }
        }

        void countFits(Numbers tale, int to) {
            judge(tale, to);
            for (int k = length - 1; k >= 1; k--) {
                for (int place = 0; place < 2 * roads.meetings; place++) {
                    number[k * PLACES + place] = isRight(k, place) ? numberAt(k, place) : 0;
                }
            }
        }

        private long numberAt(int k, int place) {
            int getter = roads.getterAt(place);
            if (k == length - 1) {
                return getter == goal ? 1 : 0;
            }
            return waysOn(getter, roads.readyAt(place), k + 1);
        }

        /** In how many ways one can hand on what then has line k and those behind it. */
        private long waysOn(int giver, int ready, int k) {
            long sum = 0;
            for (int m = 0; m < roads.meetings; m++) {
                int next = nextOf(m, giver, ready, k);
                if (next != NONE) {
                    sum += number[next];
                }
            }
            return sum;
        }

        /** Where it stands behind a meeting, by number and place, or NONE if it can't go on so. */
        private int nextOf(int m, int giver, int ready, int k) {
            if (!roads.isAt(giver, m) || roads.hour[m] < ready) {
                return NONE;
            }
            int place = roads.placeOf(m, roads.otherAt(m, giver));
            return k < length && number[k * PLACES + place] > 0 ? k * PLACES + place : NONE;
        }

        long fitting(int from, int hour) {
            if (length == 1) {
                return from == goal ? 1 : 0;
            }
            return waysOn(from, hour, 1);
        }

        void traceFit(int from, int hour, Numbers row) {
            int giver = from;
            int ready = hour;
            row.clear();
            for (int k = 1; k < length; k++) {
                int m = stepFit(giver, ready, k);
                if (m == NONE) {
                    return;
                }
                row.add(m);
                giver = roads.otherAt(m, giver);
                ready = roads.readyAt(roads.placeOf(m, giver));
            }
        }

        private int stepFit(int giver, int ready, int k) {
            for (int m = 0; m < roads.meetings; m++) {
                if (nextOf(m, giver, ready, k) != NONE) {
                    return m;
                }
            }
            return NONE;
        }

        void gatherGetters(int from, int hour) {
            boolean isAny = fitting(from, hour) > 0;
            for (int k = length - 1; k >= 1; k--) {
                for (int place = 0; place < 2 * roads.meetings; place++) {
                    if (number[k * PLACES + place] == 0) {
                        continue;
                    }
                    int getter = roads.getterAt(place);
                    gather(getter, roads.readyAt(place), k + 1);
                    some[k * PLACES + place] = inSome | (1 << getter);
                    each[k * PLACES + place] = inEach | (1 << getter);
                }
            }
            gather(from, hour, 1);
            inSome = isAny ? inSome | (1 << from) : 0;
            inEach = isAny ? inEach | (1 << from) : 0;
        }

        private void gather(int giver, int ready, int k) {
            inSome = 0;
            inEach = k < length ? roads.everybody() : 0;
            for (int m = 0; m < roads.meetings; m++) {
                int next = nextOf(m, giver, ready, k);
                if (next != NONE) {
                    inSome |= some[next];
                    inEach &= each[next];
                }
            }
        }

        /** The latest hour at which it can have been written, or NONE. */
        int latestStart(int from) {
            if (length == 1) {
                return from == goal ? LAST_HOUR : NONE;
            }
            int latest = NONE;
            for (int m = 0; m < roads.meetings; m++) {
                if (nextOf(m, from, 0, 1) != NONE) {
                    latest = Math.max(latest, roads.hour[m]);
                }
            }
            return latest;
        }

        void weighLies(Numbers tale, int to) {
            judge(tale, to);
            for (int k = length - 1; k >= 1; k--) {
                for (int place = 0; place < 2 * roads.meetings; place++) {
                    lies[k * PLACES + place] = liesAt(k, place);
                }
            }
        }

        /** The fewest false lines behind line k. */
        private int liesAt(int k, int place) {
            int getter = roads.getterAt(place);
            if (k == length - 1) {
                return getter == goal ? 0 : FAR;
            }
            return fewestFrom(getter, roads.readyAt(place), k + 1);
        }

        private int fewestFrom(int giver, int ready, int k) {
            int fewest = FAR;
            for (int m = 0; m < roads.meetings; m++) {
                fewest = Math.min(fewest, liesBy(m, giver, ready, k));
            }
            return fewest;
        }

        /** How many lines are false from line k on, if it is added at a meeting, or FAR. */
        private int liesBy(int m, int giver, int ready, int k) {
            if (!roads.isAt(giver, m) || roads.hour[m] < ready) {
                return FAR;
            }
            int place = roads.placeOf(m, roads.otherAt(m, giver));
            int behind = lies[k * PLACES + place];
            return behind == FAR ? FAR : behind + (isRight(k, place) ? 0 : 1);
        }

        int traceLies(int from, int hour, Numbers row) {
            if (length == 1 && from == goal) {
                row.clear();
                return 0;
            }
            int fewest = length == 1 ? FAR : fewestFrom(from, hour, 1);
            if (fewest == FAR) {
                return -3;
            }
            int left = fewest;
            int giver = from;
            int ready = hour;
            row.clear();
            for (int k = 1; k < length; k++) {
                int m = stepLies(giver, ready, k, left);
                if (m == NONE) {
                    break;
                }
                row.add(m);
                giver = roads.otherAt(m, giver);
                int place = roads.placeOf(m, giver);
                ready = roads.readyAt(place);
                left -= isRight(k, place) ? 0 : 1;
            }
            return fewest;
        }

        private int stepLies(int giver, int ready, int k, int left) {
            for (int m = 0; m < roads.meetings; m++) {
                if (liesBy(m, giver, ready, k) == left) {
                    return m;
                }
            }
            return NONE;
        }
    }

    /**
     * By which ways a tale can have come, if just one left its line out. Rows are by how many lines
     * are there, and place; apart for those ways on which a line has been left out (1) or not yet (0).
     */
    private static final class Leaving {
        private static final int ROWS = (MOST_NUMBERS + 1) * PLACES;

        private final Tales tales;
        private final Roads roads;
        private final long[] number = new long[2 * ROWS];
        private final int[] leavers = new int[ROWS];
        private int length;
        private int goal;

        Leaving(Tales tales) {
            this.tales = tales;
            this.roads = tales.roads;
        }

        void countAll(Numbers tale, int to) {
            tales.judge(tale, to);
            length = tale.size;
            goal = to;
            for (int k = roads.meetings - 1; k >= 0; k--) {
                int m = roads.byHour[k];
                countAt(2 * m);
                countAt(2 * m + 1);
            }
        }

        private void countAt(int place) {
            int getter = roads.getterAt(place);
            int ready = roads.readyAt(place);
            for (int there = 1; there <= length; there++) {
                boolean isEnd = there == length && getter == goal;
                number[there * PLACES + place] = waysOn(getter, ready, there, 0);
                number[ROWS + there * PLACES + place] = (isEnd ? 1 : 0) + waysOn(getter, ready, there, 1);
                leavers[there * PLACES + place] = leavers(getter, ready, there);
            }
        }

        /** In how many ways it can go on with so many lines there, a line left out already (1) or not yet (0). */
        long waysOn(int giver, int ready, int there, int out) {
            long sum = 0;
            for (int m = 0; m < roads.meetings; m++) {
                if (!roads.isAt(giver, m) || roads.hour[m] < ready) {
                    continue;
                }
                int place = roads.placeOf(m, roads.otherAt(m, giver));
                if (tales.isRight(there, place)) {
                    sum += number[out * ROWS + (there + 1) * PLACES + place];
                }
                if (out == 0) {
                    sum += number[ROWS + there * PLACES + place];
                }
            }
            return sum;
        }

        /** Who can leave it out from there on. */
        int leavers(int giver, int ready, int there) {
            int bits = 0;
            for (int m = 0; m < roads.meetings; m++) {
                if (!roads.isAt(giver, m) || roads.hour[m] < ready) {
                    continue;
                }
                int getter = roads.otherAt(m, giver);
                int place = roads.placeOf(m, getter);
                if (tales.isRight(there, place)) {
                    bits |= leavers[(there + 1) * PLACES + place];
                }
                if (number[ROWS + there * PLACES + place] > 0) {
                    bits |= 1 << getter;
                }
            }
            return bits;
        }
    }
}
