/**
 * Whatever is eaten in company is paid by whoever has most on him, to the last farthing.
 * The words in capitals are those of the document (../shared/DOC.md, "Terms").
 */
public final class RichestPays {
    public static final int NONE = -1, BAD = -2, NOT = -3, FULL = -4;

    private static final int MOST_PEOPLE = 6, MOST_ROUNDS = 8, TABLES = 6, MOST_SEEN = 8;
    private static final int PEOPLE_BYTES = 30, ROUNDS_BYTES = 60;
    private static final int SHEETS = 4, MOST_ITEMS = 48, MOST_MONEY = 99;
    private static final int NO_FINDING = 0, NULL = 1, INDEX = 2, CAST = 3, STORE = 4, SIZE = 5;
    private static final int BEHIND_ANY_NUMBER = -100000;

    private final Text[] texts;
    private final People people;
    private final Evening evening;
    private final Seating seating;
    private final Partings partings;
    private final Secrets secrets;
    private final Sheet[] sheets;
    private int latestFinding;

    public RichestPays() {
        texts = new Text[] {new Text(PEOPLE_BYTES), new Text(ROUNDS_BYTES)};
        people = new People();
        evening = new Evening(people);
        seating = new Seating(people, evening);
        partings = new Partings(people);
        secrets = new Secrets(people, evening);
        sheets = new Sheet[SHEETS];
        for (int s = 0; s < SHEETS; s++) {
            sheets[s] = new Sheet();
        }
        latestFinding = NO_FINDING;
    }

    // ---- people, rounds

    public int type(int text, int b) {
        if (!isText(text) || !isIn(b, 0, 255)) {
            return BAD;
        }
        if (texts[text].isFull()) {
            return FULL;
        }
        texts[text].append(b);
        understandTexts();
        return texts[text].length;
    }

    public int wipe(int text) {
        if (!isText(text)) {
            return BAD;
        }
        int had = texts[text].length;
        texts[text].length = 0;
        understandTexts();
        return had;
    }

    public int fault(int text) {
        if (!isText(text)) {
            return BAD;
        }
        return text == 0 ? people.textFault : evening.textFault;
    }

    public int person(int person, int what) {
        if (!isPerson(person) || !isIn(what, 0, 1)) {
            return BAD;
        }
        return what == 0 ? people.purse[person] : people.appetite[person];
    }

    public int sits(int round, int person) {
        if (!isRound(round) || !isPerson(person)) {
            return BAD;
        }
        return evening.tableOf(round, person);
    }

    public int home(int person, int v) {
        if (!isIn(person, 0, MOST_PEOPLE - 1) || !isIn(v, 0, MOST_MONEY)) {
            return BAD;
        }
        int was = people.atHome[person];
        people.atHome[person] = v;
        return was;
    }

    public int worth(int person, int v) {
        if (!isIn(person, 0, MOST_PEOPLE - 1) || !isIn(v, 0, MOST_MONEY)) {
            return BAD;
        }
        int was = people.mealWorth[person];
        people.mealWorth[person] = v;
        return was;
    }

    public int read(int s) {
        if (!isSheet(s)) {
            return BAD;
        }
        if (sheets[s].isLost) {
            return found(NULL);
        }
        int most = Math.min(sheets[s].size, MOST_PEOPLE);
        for (int i = 0; i < most; i++) {
            int item = sheets[s].items[i];
            if (!isIn(item, 0, MOST_MONEY)) {
                return i;
            }
            people.atHome[i] = item;
        }
        return most;
    }

    public int set(int what, int v) {
        if (!isIn(what, 0, 1) || !isIn(v, 0, what == 0 ? 2 : 1)) {
            return BAD;
        }
        int was = what == 0 ? people.law : people.ties;
        if (what == 0) {
            people.law = v;
        } else {
            people.ties = v;
        }
        return was;
    }

    // ---- evenings

    public int state(int person, int k, int what) {
        if (!isPerson(person) || !isIn(k, 0, evening.rounds) || !isIn(what, 0, 3)) {
            return BAD;
        }
        evening.play(k);
        return evening.sumsOf(what)[person];
    }

    public int all(int k, int what) {
        if (!isIn(k, 0, evening.rounds) || !isIn(what, 0, 3)) {
            return BAD;
        }
        evening.play(k);
        return people.together(evening.sumsOf(what));
    }

    public int payer(int round, int table) {
        if (!isRound(round) || !isIn(table, 0, TABLES - 1)) {
            return BAD;
        }
        evening.play(round + 1);
        return people.aheadBy(evening.paidNow, evening.seatedAt(round, table));
    }

    public int beggars() {
        evening.play(evening.rounds);
        int bits = 0;
        for (int p = 0; p < people.number; p++) {
            if (evening.eaten[p] > 0 && evening.paid[p] == 0) {
                bits |= 1 << p;
            }
        }
        return bits;
    }

    // ---- where to sit

    public int best(int round, int person, int what) {
        if (!isRound(round) || !isPerson(person) || !isIn(what, 0, 2)) {
            return BEHIND_ANY_NUMBER + BAD;
        }
        seating.findBest(round, person);
        return seating.bestTold(what);
    }

    public int rest(int person) {
        if (person != NONE && !isPerson(person)) {
            return BAD;
        }
        seating.findRests();
        return person == NONE ? seating.restRows : seating.firstRestTable(person);
    }

    public int down(int person, int v) {
        if (!isPerson(person) || !isIn(v, 0, MOST_MONEY)) {
            return BAD;
        }
        partings.follow();
        return partings.fewestDown(person, v);
    }

    public int alike() {
        partings.follow();
        return partings.fewestAlike();
    }

    // ---- in the dark

    public int dark(int round, int person, int friend) {
        if (!isRound(round) || !isPerson(person) || !isPerson(friend) || person == friend) {
            return BAD;
        }
        int table = evening.tableOf(round, person);
        if (table == NONE || table != evening.tableOf(round, friend)) {
            return NOT;
        }
        return secrets.leastPassed(evening.seatedAt(round, table), person, friend);
    }

    public int seen(int round, int person, int v) {
        if (!isIn(round, 0, MOST_ROUNDS - 1) || !isIn(person, 0, MOST_PEOPLE - 1)
                || !isIn(v, 0, MOST_MONEY)) {
            return BAD;
        }
        if (secrets.seenNumber >= MOST_SEEN) {
            return FULL;
        }
        secrets.remember(round, person, v);
        return secrets.seenNumber;
    }

    public int forget() {
        int had = secrets.seenNumber;
        secrets.seenNumber = 0;
        return had;
    }

    public int unlike() {
        evening.play(evening.rounds);
        return secrets.unlikeSeen();
    }

    public int hid(int person) {
        return isPerson(person) ? secrets.leastHidden(person) : BAD;
    }

    public long luck(int m, int h, int u, int what) {
        if (!isIn(m, 0, 5) || !isIn(h, 0, MOST_MONEY) || !isIn(u, 1, MOST_MONEY)
                || !isIn(what, 0, 1)) {
            return Long.MIN_VALUE - BAD;
        }
        int sums = u + 1;
        int lesser = Math.min(h, sums);
        int shared = greatestDivisor(lesser, sums);
        return power((what == 0 ? lesser : sums) / shared, m);
    }

    // ---- sheets

    public int sheet(int s, int form, int n) {
        if (!isSheet(s) || !isForm(form) || n > MOST_ITEMS) {
            return BAD;
        }
        if (n < 0) {
            return found(SIZE);
        }
        sheets[s].renew(form, n);
        return n;
    }

    public int lose(int s) {
        if (!isSheet(s)) {
            return BAD;
        }
        if (sheets[s].isLost) {
            return found(NULL);
        }
        sheets[s].isLost = true;
        return sheets[s].size;
    }

    public int put(int s, int form, int i, int v) {
        if (!isSheet(s) || !isForm(form)) {
            return BAD;
        }
        int finding = sheets[s].findingAt(form, i);
        if (finding != NO_FINDING) {
            return found(finding);
        }
        sheets[s].store(i, v);
        return 1;
    }

    public int get(int s, int form, int i) {
        if (!isSheet(s) || !isForm(form)) {
            return Integer.MIN_VALUE;
        }
        int finding = sheets[s].findingAt(form, i);
        if (finding != NO_FINDING) {
            found(finding);
            return Integer.MIN_VALUE;
        }
        return sheets[s].items[i];
    }

    public int copy(int s, int i, int t, int j, int n) {
        if (!isSheet(s) || !isSheet(t)) {
            return BAD;
        }
        Sheet from = sheets[s];
        Sheet to = sheets[t];
        if (from.isLost || to.isLost) {
            return found(NULL);
        }
        if (from.form != to.form) {
            return found(STORE);
        }
        if (!from.hasItems(i, n) || !to.hasItems(j, n)) {
            return found(INDEX);
        }
        System.arraycopy(from.items, i, to.items, j, n);
        return 1;
    }

    public int write(int k, int s) {
        if (!isIn(k, 0, evening.rounds) || !isSheet(s)) {
            return BAD;
        }
        if (sheets[s].isLost) {
            return found(NULL);
        }
        evening.play(k);
        int most = Math.min(sheets[s].size, people.number);
        for (int p = 0; p < most; p++) {
            sheets[s].store(p, evening.hand[p]);
        }
        return most;
    }

    public int count(int what) {
        switch (what) {
            case 0: return people.number;
            case 1: return evening.rounds;
            case 2: return texts[0].length;
            case 3: return texts[1].length;
            case 4: return secrets.seenNumber;
            case 5: return people.together(people.purse);
            case 6: return all(0, 0);
            case 7: return evening.meals();
            case 8: return latestFinding;
            default: return BAD;
        }
    }

    public long digest() {
        long h = 17;
        for (int what = 0; what <= 7; what++) {
            h = mixed(h, count(what));
        }
        h = mixed(mixed(h, fault(0)), fault(1));
        seating.findRests();
        partings.follow();
        for (int p = 0; p < people.number; p++) {
            h = mixedPerson(h, p);
        }
        for (int round = 0; round < evening.rounds; round++) {
            h = mixedRound(h, round);
        }
        h = mixed(mixed(h, beggars()), seating.restRows);
        h = mixed(mixed(h, partings.fewestAlike()), unlike());
        return mixed(mixed(h, luck(2, 30, 50, 0)), luck(2, 30, 50, 1));
    }

    // ---- helpers

    // counts on rests and partings being found already: digest finds them once for all PEOPLE
    private long mixedPerson(long before, int p) {
        long h = mixed(mixed(before, person(p, 0)), person(p, 1));
        evening.play(evening.rounds);
        for (int what = 0; what <= 3; what++) {
            h = mixed(h, evening.sumsOf(what)[p]);
        }
        h = mixed(h, seating.firstRestTable(p));
        return mixed(mixed(h, partings.fewestDown(p, 10)), secrets.leastHidden(p));
    }

    private long mixedRound(long before, int round) {
        long h = mixed(mixed(before, payer(round, 0)), payer(round, 1));
        seating.findBest(round, 0);
        for (int what = 0; what <= 2; what++) {
            h = mixed(h, seating.bestTold(what));
        }
        return h;
    }

    private static long mixed(long h, long value) {
        return 31 * h + value;
    }

    // ROUNDS are told by PEOPLE, so that either text may change what both say
    private void understandTexts() {
        people.understand(texts[0]);
        evening.understand(texts[1]);
    }

    private int found(int finding) {
        latestFinding = finding;
        return -10 - finding;
    }

    private boolean isPerson(int person) {
        return isIn(person, 0, people.number - 1);
    }

    private boolean isRound(int round) {
        return isIn(round, 0, evening.rounds - 1);
    }

    private static boolean isText(int text) {
        return isIn(text, 0, 1);
    }

    private static boolean isSheet(int s) {
        return isIn(s, 0, SHEETS - 1);
    }

    private static boolean isForm(int form) {
        return isIn(form, 0, 2);
    }

    private static boolean isIn(int v, int least, int most) {
        return v >= least && v <= most;
    }

    // b is above 0, so that there is always a divisor
    private static int greatestDivisor(int a, int b) {
        for (int d = b; d > 1; d--) {
            if (a % d == 0 && b % d == 0) {
                return d;
            }
        }
        return 1;
    }

    private static long power(long base, int times) {
        long product = 1;
        for (int i = 0; i < times; i++) {
            product *= base;
        }
        return product;
    }

    /** Bytes as they were typed. */
    private static final class Text {
        final int[] bytes;
        int length;

        Text(int room) {
            bytes = new int[room];
            length = 0;
        }

        boolean isFull() {
            return length >= bytes.length;
        }

        void append(int b) {
            if (!isFull()) {
                bytes[length] = b;
                length++;
            }
        }

        /** The FAULT of a text of so many rows at most, each so wide, with ; between them. */
        int faultInRows(int width, int mostRows, boolean ofTables) {
            if (length == 0) {
                return NONE;
            }
            if (width <= 0) {
                return 0;
            }
            for (int i = 0; i < length; i++) {
                int place = i % (width + 1);
                boolean fits = place == width ? bytes[i] == ';' : isSign(bytes[i], ofTables);
                if (!fits || i / (width + 1) >= mostRows) {
                    return i;
                }
            }
            return length % (width + 1) == width ? NONE : length;
        }

        private static boolean isSign(int b, boolean ofTables) {
            return ofTables ? b == '-' || isIn(b, '0', '5') : isIn(b, '0', '9');
        }

        int twoFigures(int i) {
            if (i < 0 || i + 1 >= length) {
                return 0;
            }
            return 10 * (bytes[i] - '0') + bytes[i + 1] - '0';
        }
    }

    /** The PEOPLE, what they leave at HOME, and the LAW by which they pay. */
    private static final class People {
        static final int WIDTH = 4;
        final int[] purse = new int[MOST_PEOPLE];
        final int[] appetite = new int[MOST_PEOPLE];
        final int[] atHome = new int[MOST_PEOPLE];
        final int[] mealWorth = new int[MOST_PEOPLE];
        /** What each at the TABLE that was charged last is to pay. */
        final int[] due = new int[MOST_PEOPLE];
        int number = 0;
        int textFault = NONE;
        int law = 0;
        int ties = 0;

        People() {
            for (int p = 0; p < MOST_PEOPLE; p++) {
                mealWorth[p] = 20;
            }
        }

        void understand(Text text) {
            textFault = text.faultInRows(WIDTH, MOST_PEOPLE, false);
            number = textFault == NONE ? (text.length + 1) / (WIDTH + 1) : 0;
            for (int p = 0; p < MOST_PEOPLE; p++) {
                boolean isThere = p < number;
                purse[p] = isThere ? text.twoFigures(p * (WIDTH + 1)) : 0;
                appetite[p] = isThere ? text.twoFigures(p * (WIDTH + 1) + 2) : 0;
            }
        }

        int handAtFirst(int p) {
            return Math.max(0, purse[p] - atHome[p]);
        }

        void tellHandsAtFirst(int[] hands) {
            for (int p = 0; p < MOST_PEOPLE; p++) {
                hands[p] = handAtFirst(p);
            }
        }

        int together(int[] sums) {
            int total = 0;
            for (int p = 0; p < number; p++) {
                total += sums[p];
            }
            return total;
        }

        /** Who of those seated (as bits) has most of it, of like ones who is ahead by TIES. */
        int aheadBy(int[] sums, int seated) {
            int ahead = NONE;
            for (int p = 0; p < number; p++) {
                boolean isSeated = (seated & 1 << p) != 0;
                if (isSeated && (ahead == NONE || sums[p] > sums[ahead]
                        || ties == 1 && sums[p] == sums[ahead])) {
                    ahead = p;
                }
            }
            return ahead;
        }

        /** Tells in due what each of those seated (as bits) at one TABLE is to pay. */
        void charge(int seated, int[] hands) {
            int total = 0;
            for (int p = 0; p < number; p++) {
                if ((seated & 1 << p) != 0) {
                    due[p] = law == 2 ? appetite[p] : 0;
                    total += appetite[p];
                }
            }
            int richest = law == 2 ? NONE : aheadBy(hands, seated);
            if (richest == NONE) {
                return;
            }
            int second = law == 1 ? aheadBy(hands, seated & ~(1 << richest)) : NONE;
            due[richest] = second == NONE ? total : total / 2;
            if (second != NONE) {
                due[second] = total - total / 2;
            }
        }

        int payOf(int person, int seated, int[] hands) {
            charge(seated, hands);
            return Math.min(due[person], hands[person]);
        }
    }

    /** The ROUNDS, and what is behind some of them. */
    private static final class Evening {
        final People people;
        final int[] tables = new int[MOST_ROUNDS * MOST_PEOPLE];
        /** By ROUND and TABLE who sits there, as bits. */
        final int[] groups = new int[MOST_ROUNDS * TABLES];
        final int[] hand = new int[MOST_PEOPLE];
        final int[] paid = new int[MOST_PEOPLE];
        final int[] eaten = new int[MOST_PEOPLE];
        final int[] lacked = new int[MOST_PEOPLE];
        /** What each paid in the ROUND that was played last. */
        final int[] paidNow = new int[MOST_PEOPLE];
        final int[] paidIn = new int[MOST_ROUNDS * MOST_PEOPLE];
        int rounds = 0;
        int textFault = NONE;

        Evening(People people) {
            this.people = people;
        }

        void understand(Text text) {
            int width = people.number;
            textFault = text.faultInRows(width, MOST_ROUNDS, true);
            rounds = textFault == NONE ? (text.length + 1) / (width + 1) : 0;
            if (width == 0) {
                rounds = 0;
            }
            for (int i = 0; i < MOST_ROUNDS * TABLES; i++) {
                groups[i] = 0;
            }
            for (int round = 0; round < rounds; round++) {
                for (int p = 0; p < width; p++) {
                    seat(round, p, text.bytes[round * (width + 1) + p]);
                }
            }
        }

        private void seat(int round, int person, int sign) {
            int table = sign == '-' ? NONE : sign - '0';
            tables[round * MOST_PEOPLE + person] = table;
            if (isIn(table, 0, TABLES - 1)) {
                groups[round * TABLES + table] |= 1 << person;
            }
        }

        int tableOf(int round, int person) {
            return tables[round * MOST_PEOPLE + person];
        }

        /** Who sits there, as bits. */
        int seatedAt(int round, int table) {
            return groups[round * TABLES + table];
        }

        int meals() {
            int meals = 0;
            for (int round = 0; round < rounds; round++) {
                for (int table = 0; table < TABLES; table++) {
                    meals += Integer.bitCount(seatedAt(round, table));
                }
            }
            return meals;
        }

        void play(int k) {
            people.tellHandsAtFirst(hand);
            playFromHands(k);
        }

        /** Plays from what hand tells already, so that one may try other HANDS. */
        void playFromHands(int k) {
            for (int p = 0; p < MOST_PEOPLE; p++) {
                paid[p] = 0;
                eaten[p] = 0;
                lacked[p] = 0;
            }
            for (int round = 0; round < k; round++) {
                playRound(round);
            }
        }

        private void playRound(int round) {
            for (int table = 0; table < TABLES; table++) {
                if (seatedAt(round, table) != 0) {
                    people.charge(seatedAt(round, table), hand);
                }
            }
            for (int p = 0; p < people.number; p++) {
                boolean isAway = tableOf(round, p) == NONE;
                int owed = isAway ? 0 : people.due[p];
                int pays = Math.min(owed, hand[p]);
                hand[p] -= pays;
                paid[p] += pays;
                eaten[p] += isAway ? 0 : people.appetite[p];
                lacked[p] += owed - pays;
                paidNow[p] = pays;
                paidIn[round * MOST_PEOPLE + p] = pays;
            }
        }

        int[] sumsOf(int what) {
            switch (what) {
                case 0: return hand;
                case 1: return paid;
                case 2: return eaten;
                default: return lacked;
            }
        }
    }

    /** BEST and REST: who would sit where. */
    private static final class Seating {
        static final int CHOICES = 4, GROUPS = 1 << MOST_PEOPLE;
        final People people;
        final Evening evening;
        final int[] hands = new int[MOST_PEOPLE];
        /** WORTH less what one pays, by who sits together with one (as bits). */
        final int[] gains = new int[MOST_PEOPLE * GROUPS];
        /** By each choice (0 to stay away, a TABLE and 1) who makes it, as bits. */
        final int[] choosers = new int[CHOICES];
        int bestGain;
        int bestTable;
        int bestHome;
        int restRows;
        int firstRest;

        Seating(People people, Evening evening) {
            this.people = people;
            this.evening = evening;
        }

        void findBest(int round, int person) {
            bestGain = 0;
            bestTable = NONE;
            bestHome = 0;
            people.tellHandsAtFirst(hands);
            for (int table = 0; table < TABLES; table++) {
                int seated = evening.seatedAt(round, table) | 1 << person;
                for (int left = 0; left <= people.purse[person]; left++) {
                    hands[person] = people.purse[person] - left;
                    int gain = people.mealWorth[person] - people.payOf(person, seated, hands);
                    if (gain > bestGain) {
                        bestGain = gain;
                        bestTable = table;
                        bestHome = left;
                    }
                }
            }
        }

        int bestTold(int what) {
            return what == 0 ? bestGain : what == 1 ? bestTable : bestHome;
        }

        void findRests() {
            findGains();
            restRows = 0;
            firstRest = NONE;
            int rows = 1 << 2 * people.number;
            for (int row = 0; row < rows; row++) {
                if (isRest(row)) {
                    firstRest = restRows == 0 ? row : firstRest;
                    restRows++;
                }
            }
        }

        int firstRestTable(int person) {
            return firstRest == NONE ? NONE : choiceIn(firstRest, person) - 1;
        }

        private void findGains() {
            people.tellHandsAtFirst(hands);
            int groups = 1 << people.number;
            for (int seated = 1; seated < groups; seated++) {
                people.charge(seated, hands);
                for (int p = 0; p < people.number; p++) {
                    gains[p * GROUPS + seated] =
                            people.mealWorth[p] - Math.min(people.due[p], hands[p]);
                }
            }
        }

        // PEOPLE 0 has the highest bits, so that rows by number are rows by PEOPLE 0 on
        private int choiceIn(int row, int person) {
            return row >> 2 * (people.number - 1 - person) & CHOICES - 1;
        }

        private boolean isRest(int row) {
            for (int choice = 0; choice < CHOICES; choice++) {
                choosers[choice] = 0;
            }
            for (int p = 0; p < people.number; p++) {
                choosers[choiceIn(row, p)] |= 1 << p;
            }
            for (int p = 0; p < people.number; p++) {
                int gain = gainBy(choiceIn(row, p), p);
                for (int other = 0; other < CHOICES; other++) {
                    if (gainBy(other, p) > gain) {
                        return false;
                    }
                }
            }
            return true;
        }

        private int gainBy(int choice, int p) {
            return choice == 0 ? 0 : gains[p * GROUPS + (choosers[choice] | 1 << p)];
        }
    }

    /** DOWN and ALIKE: the HANDS behind all ROUNDS that there could be. */
    private static final class Partings {
        static final int MOST = 4, MOST_PLAYED = 3, HAND_BITS = 7;
        static final int STATES = 1 + 15 + 15 * 15 + 15 * 15 * 15;
        /** How many ways there are to part so many. */
        private static final int[] WAYS = {1, 1, 2, 5, 15};
        /** Way by way the TABLES of four; the first of them part fewer, each in another way. */
        private static final int[] TABLES_BY_WAY = {
            0, 0, 0, 0,  0, 1, 0, 0,  0, 0, 1, 0,  0, 1, 1, 0,  0, 1, 2, 0,
            0, 0, 0, 1,  0, 0, 1, 1,  0, 0, 1, 2,  0, 1, 0, 1,  0, 1, 0, 2,
            0, 1, 1, 1,  0, 1, 1, 2,  0, 1, 2, 1,  0, 1, 2, 2,  0, 1, 2, 3,
        };
        final People people;
        final int[] hands = new int[MOST_PEOPLE];
        /** HANDS, seven bits each: behind state i by way w is state i * ways + 1 + w. */
        final int[] states = new int[STATES];
        int ways;

        Partings(People people) {
            this.people = people;
        }

        void follow() {
            ways = people.number > MOST ? 0 : WAYS[people.number];
            if (ways == 0) {
                return;
            }
            people.tellHandsAtFirst(hands);
            states[0] = packed();
            int played = 1 + ways + ways * ways;
            for (int i = 0; i < played; i++) {
                for (int way = 0; way < ways; way++) {
                    unpack(states[i]);
                    pay(way);
                    states[i * ways + 1 + way] = packed();
                }
            }
        }

        int fewestDown(int person, int v) {
            return fewest(person, v);
        }

        int fewestAlike() {
            return fewest(NONE, 0);
        }

        /** By how few ROUNDS the one has v, or (person NONE) all have as much. */
        private int fewest(int person, int v) {
            if (ways == 0) {
                return FULL;
            }
            int from = 0;
            int width = 1;
            for (int played = 0; played <= MOST_PLAYED; played++) {
                for (int i = from; i < from + width; i++) {
                    if (person == NONE ? areAlike(states[i]) : handIn(states[i], person) == v) {
                        return played;
                    }
                }
                from += width;
                width *= ways;
            }
            return NONE;
        }

        private boolean areAlike(int state) {
            for (int p = 1; p < people.number; p++) {
                if (handIn(state, p) != handIn(state, 0)) {
                    return false;
                }
            }
            return true;
        }

        private static int handIn(int state, int p) {
            return state >> HAND_BITS * p & (1 << HAND_BITS) - 1;
        }

        private int packed() {
            int state = 0;
            for (int p = 0; p < people.number; p++) {
                state |= hands[p] << HAND_BITS * p;
            }
            return state;
        }

        private void unpack(int state) {
            for (int p = 0; p < people.number; p++) {
                hands[p] = handIn(state, p);
            }
        }

        private void pay(int way) {
            for (int table = 0; table < MOST; table++) {
                int seated = 0;
                for (int p = 0; p < people.number; p++) {
                    if (TABLES_BY_WAY[way * MOST + p] == table) {
                        seated |= 1 << p;
                    }
                }
                people.charge(seated, hands);
            }
            for (int p = 0; p < people.number; p++) {
                hands[p] -= Math.min(people.due[p], hands[p]);
            }
        }
    }

    /** DARK, SEEN and HID: what one does not show. */
    private static final class Secrets {
        final People people;
        final Evening evening;
        final int[] hands = new int[MOST_PEOPLE];
        final int[] seenRound = new int[MOST_SEEN];
        final int[] seenPerson = new int[MOST_SEEN];
        final int[] seenPaid = new int[MOST_SEEN];
        int seenNumber = 0;

        Secrets(People people, Evening evening) {
            this.people = people;
            this.evening = evening;
        }

        int leastPassed(int seated, int person, int friend) {
            people.tellHandsAtFirst(hands);
            int pays = people.payOf(person, seated, hands);
            int most = hands[person];
            for (int passed = 1; passed <= most; passed++) {
                hands[person]--;
                hands[friend]++;
                if (people.payOf(person, seated, hands) < pays) {
                    return passed;
                }
            }
            return NONE;
        }

        void remember(int round, int person, int v) {
            if (seenNumber < MOST_SEEN) {
                seenRound[seenNumber] = round;
                seenPerson[seenNumber] = person;
                seenPaid[seenNumber] = v;
                seenNumber++;
            }
        }

        /** How many SEEN are not so in all ROUNDS as they were played last. */
        int unlikeSeen() {
            int unlike = 0;
            for (int i = 0; i < seenNumber; i++) {
                boolean isThere = seenRound[i] < evening.rounds && seenPerson[i] < people.number;
                if (!isThere || paidAsPlayed(i) != seenPaid[i]) {
                    unlike++;
                }
            }
            return unlike;
        }

        private int paidAsPlayed(int i) {
            return evening.paidIn[seenRound[i] * MOST_PEOPLE + seenPerson[i]];
        }

        int leastHidden(int person) {
            for (int left = 0; left <= people.purse[person]; left++) {
                people.tellHandsAtFirst(evening.hand);
                evening.hand[person] = people.purse[person] - left;
                evening.playFromHands(evening.rounds);
                if (unlikeSeen() == 0) {
                    return left;
                }
            }
            return NONE;
        }
    }

    /** A row of a FORM, which may be LOST. */
    private static final class Sheet {
        final int[] items = new int[MOST_ITEMS];
        int form = 0;
        int size = 0;
        boolean isLost = true;

        void renew(int newForm, int n) {
            isLost = false;
            form = newForm;
            size = n;
            for (int i = 0; i < MOST_ITEMS; i++) {
                items[i] = 0;
            }
        }

        int findingAt(int asForm, int i) {
            if (isLost) {
                return NULL;
            }
            if (form != asForm) {
                return CAST;
            }
            return i < 0 || i >= size ? INDEX : NO_FINDING;
        }

        /** Also of no items: a place above the size is none. */
        boolean hasItems(int i, int n) {
            return i >= 0 && n >= 0 && i <= size && n <= size - i;
        }

        void store(int i, int v) {
            items[i] = form == 0 ? (byte) v : form == 1 ? (short) v : v;
        }
    }
}
