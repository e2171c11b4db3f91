/** Councils and seats: who wins in a body and with what power, and who gets how many seats. */
public final class Seatpower {
    private static final int NONE = -1;
    private static final int NOT_LET = -8;
    private static final int NO_SUCH_BODY = -9;
    private static final int MOST_MEMBERS = 6;
    private static final int MOST_GROUPS = 64;
    private static final int BODIES = 4;
    private static final int MOST_PARTIES = 6;
    private static final int MOST_SEATS = 40;
    private static final int QUOTIENT_METHODS = 5;
    private static final int RESTS = 5;
    private static final int ROOT = 3;
    private static final int LAST_ODD_HOUSE = 39;
    private static final int LAST_SOUND_HOUSE = 12;
    private static final int MOST_VOTES_MORE = 99;
    private static final long DIGEST_START = 6502;

    private final State now = new State();
    private final Past past = new Past();
    private final Catalogue catalogue = new Catalogue();
    private final Trade found = new Trade();
    private final Scales scales = new Scales();
    private final Election election = new Election();
    private final Text text = new Text();
    private final int[] groupWeights = new int[MOST_GROUPS];
    private int knocks;

    public Seatpower() {
        now.foundCouncil(3);
        now.foundPoll(3);
    }

    public int members(int many) throws IllegalArgumentException {
        if (many < 1 || many > MOST_MEMBERS) {
            throw new IllegalArgumentException("many is not 1 to 6");
        }
        past.keep(now);
        int before = now.members;
        now.foundCouncil(many);
        return before;
    }

    public int weight(int member, int weight) throws IndexOutOfBoundsException, IllegalArgumentException {
        checkMember(member);
        if (weight < 0 || weight > 99) {
            throw new IllegalArgumentException("weight is not 0 to 99");
        }
        past.keep(now);
        int before = now.weights[member];
        now.weights[member] = weight;
        return before;
    }

    public int like(int a, int b, int much) throws IndexOutOfBoundsException, IllegalArgumentException {
        checkMember(a);
        checkMember(b);
        checkDifferent(a, b);
        if (much < 0 || much > 9) {
            throw new IllegalArgumentException("much is not 0 to 9");
        }
        past.keep(now);
        int before = now.likes[a][b];
        now.likes[a][b] = much;
        now.likes[b][a] = much;
        return before;
    }

    public int quarrel(int a, int b, boolean is) throws IndexOutOfBoundsException, IllegalArgumentException {
        checkMember(a);
        checkMember(b);
        checkDifferent(a, b);
        past.keep(now);
        int before = now.quarrels[a] >> b & 1;
        now.quarrels[a] = now.quarrels[a] & ~(1 << b) | (is ? 1 << b : 0);
        now.quarrels[b] = now.quarrels[b] & ~(1 << a) | (is ? 1 << a : 0);
        return before;
    }

    public int quota(int body, int quota, int heads) throws IndexOutOfBoundsException, IllegalArgumentException {
        checkBody(body);
        if (quota < 1 || quota > 999) {
            throw new IllegalArgumentException("quota is not 1 to 999");
        }
        if (heads < 0 || heads > 6) {
            throw new IllegalArgumentException("heads is not 0 to 6");
        }
        now.weigh(groupWeights);
        long table = Tables.byQuota(groupWeights, now.members, quota, heads);
        return Tables.isProper(table, now.members) ? put(body, table) : NOT_LET;
    }

    public int none(int body) throws IndexOutOfBoundsException {
        checkBody(body);
        int before = Long.bitCount(now.tables[body]);
        put(body, 0);
        return before;
    }

    public int list(int body, int group) throws IndexOutOfBoundsException, IllegalArgumentException {
        checkBody(body);
        checkGroup(group, 1);
        return put(body, now.tables[body] | Tables.having(now.members, group));
    }

    public int join(int a, int b, int to, boolean isOr) throws IndexOutOfBoundsException {
        checkBody(a);
        checkBody(b);
        checkBody(to);
        long one = now.tables[a];
        long other = now.tables[b];
        return put(to, isOr ? one | other : one & other);
    }

    public int dual(int body, int to) throws IndexOutOfBoundsException {
        checkBody(body);
        checkBody(to);
        long table = now.tables[body];
        return table == 0 ? NOT_LET : put(to, Tables.blocking(table, now.members));
    }

    public int bloc(int body, int group, int to) throws IndexOutOfBoundsException, IllegalArgumentException {
        checkBody(body);
        checkBody(to);
        checkGroup(group, 1);
        return put(to, Tables.withBloc(now.tables[body], now.members, group));
    }

    public int within(int body, int member, int inner, int to) throws IndexOutOfBoundsException {
        checkBody(body);
        checkMember(member);
        checkBody(inner);
        checkBody(to);
        return put(to, Tables.withInner(now.tables[body], now.members, member, now.tables[inner]));
    }

    public int veto(int body, int member) throws IndexOutOfBoundsException {
        checkBody(body);
        checkMember(member);
        return put(body, now.tables[body] & Tables.having(now.members, 1 << member));
    }

    public int make(int body, int number) throws IndexOutOfBoundsException, IllegalArgumentException {
        checkBody(body);
        if (number < 0) {
            throw new IllegalArgumentException("number is below 0");
        }
        int table = catalogue.tableOf(number, now.members);
        return table == NONE ? NO_SUCH_BODY : put(body, table);
    }

    public boolean wins(int body, int group) throws IndexOutOfBoundsException, IllegalArgumentException {
        checkBody(body);
        checkGroup(group, 0);
        return Tables.has(now.tables[body], group);
    }

    public int ofBody(int body, int what) throws IndexOutOfBoundsException, IllegalArgumentException {
        checkBody(body);
        if (what < 0 || what > 8) {
            throw new IllegalArgumentException("what is not 0 to 8");
        }
        long table = now.tables[body];
        int many = now.members;
        switch (what) {
            case 0: return Long.bitCount(table);
            case 1: return Tables.countLeast(table, many);
            case 2: return Tables.isProper(table, many) ? 1 : 0;
            case 3: return Tables.isStrong(table, many) ? 1 : 0;
            case 4: return Tables.dictator(table, many);
            case 5: return Tables.vetoers(table, many);
            case 6: return Tables.idlers(table, many);
            case 7: return Tables.countAllSwings(table, many);
            default: return catalogue.numberOf(table, many);
        }
    }

    public String least(int body, boolean isBlocking) throws IndexOutOfBoundsException {
        checkBody(body);
        writeLeast(body, isBlocking);
        return text.made();
    }

    public int swings(int body, int member, boolean isFree) throws IndexOutOfBoundsException {
        checkBody(body);
        checkMember(member);
        long table = now.tables[body];
        return isFree ? freeSwings(table, member) : Tables.countSwings(table, now.members, member);
    }

    public String power(int body, int member, int kind) throws IndexOutOfBoundsException, IllegalArgumentException {
        checkBody(body);
        checkMember(member);
        if (kind < 0 || kind > 4) {
            throw new IllegalArgumentException("kind is not 0 to 4");
        }
        writePower(body, member, kind);
        return text.made();
    }

    public int turner(int body, int order) throws IndexOutOfBoundsException, IllegalArgumentException {
        checkBody(body);
        if (order < 0) {
            throw new IllegalArgumentException("order is below 0");
        }
        return Tables.turning(now.tables[body], now.members, order);
    }

    public boolean same(int a, int b) throws IndexOutOfBoundsException {
        checkBody(a);
        checkBody(b);
        return now.tables[a] == now.tables[b];
    }

    public boolean areAlike(int body, int a, int b) throws IndexOutOfBoundsException {
        checkBody(body);
        checkMember(a);
        checkMember(b);
        return Tables.areExchangeable(now.tables[body], now.members, a, b);
    }

    public String weights(int body) throws IndexOutOfBoundsException {
        checkBody(body);
        writeWeights(body);
        return text.made();
    }

    public String trade(int body) throws IndexOutOfBoundsException {
        checkBody(body);
        writeTrade(body);
        return text.made();
    }

    public int best(int member) throws IndexOutOfBoundsException {
        checkMember(member);
        now.weigh(groupWeights);
        int all = groupWeights[Tables.everyone(now.members)];
        int best = NONE;
        int greatest = NONE;
        // Who wins changes only where the quota passes the weight of a group:
        // the least quota for each table is one more than such a weight.
        for (int group = 0; group < Tables.groups(now.members); group++) {
            int quota = groupWeights[group] + 1;
            int power = quota <= all ? ordersByQuota(quota, member) : NONE;
            if (power > greatest || power != NONE && power == greatest && quota < best) {
                greatest = power;
                best = quota;
            }
        }
        return best;
    }

    public int held(int body) throws IndexOutOfBoundsException {
        checkBody(body);
        int held = NONE;
        int greatest = NONE;
        for (int group = 1; group < Tables.groups(now.members); group++) {
            int hold = Tables.isLeast(now.tables[body], now.members, group) ? now.hold(group) : NONE;
            if (hold > greatest) {
                greatest = hold;
                held = group;
            }
        }
        return held;
    }

    public int parties(int many) throws IllegalArgumentException {
        if (many < 1 || many > MOST_PARTIES) {
            throw new IllegalArgumentException("many is not 1 to 6");
        }
        past.keep(now);
        int before = now.parties;
        now.foundPoll(many);
        return before;
    }

    public int votes(int party, int votes) throws IndexOutOfBoundsException, IllegalArgumentException {
        checkParty(party);
        if (votes < 0 || votes > 9999) {
            throw new IllegalArgumentException("votes is not 0 to 9999");
        }
        past.keep(now);
        int before = now.votes[party];
        now.votes[party] = votes;
        return before;
    }

    public int minimum(int party, int least) throws IndexOutOfBoundsException, IllegalArgumentException {
        checkParty(party);
        if (least < 0 || least > 9) {
            throw new IllegalArgumentException("least is not 0 to 9");
        }
        past.keep(now);
        int before = now.minima[party];
        now.minima[party] = least;
        return before;
    }

    public int bar(int percent) throws IllegalArgumentException {
        if (percent < 0 || percent > 50) {
            throw new IllegalArgumentException("percent is not 0 to 50");
        }
        past.keep(now);
        int before = now.bar;
        now.bar = percent;
        return before;
    }

    public int undo() throws IllegalStateException {
        if (past.kept == 0) {
            throw new IllegalStateException("nothing can be undone");
        }
        past.giveBack(now);
        return past.kept;
    }

    public int seats(int party, int method, int house) throws IndexOutOfBoundsException, IllegalArgumentException {
        checkParty(party);
        checkMethod(method, RESTS);
        checkHouse(house);
        election.take(now);
        return election.deal(method, house) ? election.seats[party] : NOT_LET;
    }

    public String all(int method, int house) throws IllegalArgumentException {
        checkMethod(method, RESTS);
        checkHouse(house);
        writeAll(method, house);
        return text.made();
    }

    public String range(int method, int house) throws IllegalArgumentException {
        checkMethod(method, QUOTIENT_METHODS - 1);
        checkHouse(house);
        writeRange(method, house);
        return text.made();
    }

    public String odd(int method) throws IllegalArgumentException {
        checkMethod(method, RESTS);
        writeOdd(method);
        return text.made();
    }

    public String merged(int method, int house, int a, int b)
            throws IndexOutOfBoundsException, IllegalArgumentException {
        checkParty(a);
        checkParty(b);
        checkMethod(method, RESTS);
        checkHouse(house);
        checkDifferent(a, b);
        text.clear();
        election.take(now);
        boolean isDone = election.deal(method, house);
        int apart = election.seats[a] + election.seats[b];
        election.merge(a, b);
        if (isDone && election.deal(method, house)) {
            text.number(election.seats[a] + election.seats[b] - apart);
        } else {
            text.sign('!');
        }
        return text.made();
    }

    public String moved(int method, int house, int a, int b, int votes)
            throws IndexOutOfBoundsException, IllegalArgumentException {
        checkParty(a);
        checkParty(b);
        checkMethod(method, RESTS);
        checkHouse(house);
        checkDifferent(a, b);
        if (votes < 0) {
            throw new IllegalArgumentException("votes is below 0");
        }
        election.take(now);
        election.move(a, b, votes);
        writeSeats(election.deal(method, house));
        return text.made();
    }

    public int missed(int method, int house) throws IllegalArgumentException {
        checkMethod(method, RESTS);
        checkHouse(house);
        election.take(now);
        return election.deal(method, house) ? election.countMissed(house) : NOT_LET;
    }

    public int more(int party, int method, int house) throws IndexOutOfBoundsException, IllegalArgumentException {
        checkParty(party);
        checkMethod(method, RESTS);
        checkHouse(house);
        election.take(now);
        if (!election.deal(method, house)) {
            return NOT_LET;
        }
        int before = election.seats[party];
        for (int votes = 1; votes <= MOST_VOTES_MORE; votes++) {
            election.add(party, 1);
            if (election.deal(method, house) && election.seats[party] > before) {
                return votes;
            }
        }
        return NONE;
    }

    public String share(int party, int house) throws IndexOutOfBoundsException, IllegalArgumentException {
        checkParty(party);
        checkHouse(house);
        writeShare(party, house);
        return text.made();
    }

    public int house(int what) throws IllegalArgumentException {
        if (what < 0 || what > 10) {
            throw new IllegalArgumentException("what is not 0 to 10");
        }
        election.take(now);
        switch (what) {
            case 0: return now.members;
            case 1: return now.allWeights();
            case 2: return now.countQuarrels();
            case 3: return now.parties;
            case 4: return election.allVotes;
            case 5: return election.total;
            case 6: return election.countIn();
            case 7: return election.needed;
            case 8: return now.bar;
            case 9: return past.kept;
            default: return knocks;
        }
    }

    public int knock() {
        knocks++;
        return knocks;
    }

    public boolean isSound() {
        for (int body = 0; body < BODIES; body++) {
            long table = now.tables[body];
            if (!isPowerSound(table) || !areWeightsSound(table)) {
                return false;
            }
        }
        return areJoinsSound() && areHousesSound();
    }

    public long digest() {
        long d = DIGEST_START;
        for (int what = 0; what <= 10; what++) {
            d = mixed(d, house(what));
        }
        for (int body = 0; body < BODIES; body++) {
            d = withBody(d, body);
        }
        for (int member = 0; member < now.members; member++) {
            d = mixed(d, best(member));
        }
        for (int method = 0; method <= RESTS; method++) {
            d = withMethod(d, method);
        }
        for (int method = 0; method < QUOTIENT_METHODS; method++) {
            writeRange(method, 7);
            d = mixed(d, text.length);
        }
        for (int party = 0; party < now.parties; party++) {
            writeShare(party, 7);
            d = mixed(d, text.length);
            d = mixed(d, more(party, 0, 7));
            d = mixed(d, more(party, RESTS, 7));
        }
        return mixed(d, isSound() ? 1 : 0);
    }

    private static long mixed(long d, long v) {
        return d * 31 + v;
    }

    private long withBody(long start, int body) {
        long d = start;
        for (int what = 0; what <= 8; what++) {
            d = mixed(d, ofBody(body, what));
        }
        writeLeast(body, false);
        d = mixed(d, text.length);
        writeLeast(body, true);
        d = mixed(d, text.length);
        writeWeights(body);
        d = mixed(d, text.length);
        writeTrade(body);
        d = mixed(d, text.length);
        d = mixed(d, held(body));
        for (int order = 0; order <= 5; order++) {
            d = mixed(d, turner(body, order));
        }
        for (int member = 0; member < now.members; member++) {
            d = mixed(d, swings(body, member, false));
            d = mixed(d, swings(body, member, true));
            for (int kind = 0; kind <= 4; kind++) {
                writePower(body, member, kind);
                d = mixed(d, text.length);
            }
        }
        return d;
    }

    private long withMethod(long start, int method) {
        long d = start;
        for (int house = 0; house <= 21; house += 7) {
            writeAll(method, house);
            d = mixed(d, text.length);
            d = mixed(d, missed(method, house));
        }
        writeOdd(method);
        return mixed(d, text.length);
    }

    private static void checkBody(int body) {
        if (body < 0 || body >= BODIES) {
            throw new IndexOutOfBoundsException("no such body");
        }
    }

    private void checkMember(int member) {
        if (member < 0 || member >= now.members) {
            throw new IndexOutOfBoundsException("no such member");
        }
    }

    private void checkParty(int party) {
        if (party < 0 || party >= now.parties) {
            throw new IndexOutOfBoundsException("no such party");
        }
    }

    private void checkGroup(int group, int first) {
        if (group < first || group >= Tables.groups(now.members)) {
            throw new IllegalArgumentException("no such group");
        }
    }

    private static void checkDifferent(int a, int b) {
        if (a == b) {
            throw new IllegalArgumentException("both are the same");
        }
    }

    private static void checkMethod(int method, int last) {
        if (method < 0 || method > last) {
            throw new IllegalArgumentException("no such method");
        }
    }

    private static void checkHouse(int house) {
        if (house < 0 || house > MOST_SEATS) {
            throw new IllegalArgumentException("house is not 0 to 40");
        }
    }

    private int put(int body, long table) {
        past.keep(now);
        now.tables[body] = table;
        return Long.bitCount(table);
    }

    private int freeSwings(long table, int member) {
        int count = 0;
        for (int group = 0; group < Tables.groups(now.members); group++) {
            if (Tables.isSwing(table, group, member) && now.isPeaceful(group | 1 << member)) {
                count++;
            }
        }
        return count;
    }

    private int ordersByQuota(int quota, int member) {
        long table = Tables.byQuota(groupWeights, now.members, quota, 0);
        return Tables.isProper(table, now.members) ? Tables.countOrders(table, now.members, member) : NONE;
    }

    private void writeLeast(int body, boolean isBlocking) {
        long table = isBlocking ? Tables.blocking(now.tables[body], now.members) : now.tables[body];
        text.clear();
        for (int group = 0; group < Tables.groups(now.members); group++) {
            if (Tables.isLeast(table, now.members, group)) {
                text.numberBehindBlank(group);
            }
        }
    }

    private void writePower(int body, int member, int kind) {
        long table = now.tables[body];
        int many = now.members;
        text.clear();
        if (table == 0) {
            text.number(0);
            return;
        }
        switch (kind) {
            case 0:
                text.fraction(Tables.countSwings(table, many, member), Tables.countAllSwings(table, many));
                break;
            case 1:
                text.fraction(Tables.countSwings(table, many, member), 1L << many - 1);
                break;
            case 2:
                text.fraction(Tables.countOrders(table, many, member), Tables.factorial(many));
                break;
            case 3:
                text.fraction(Tables.leastParts(table, many, member),
                        Tables.ALL_PARTS * Tables.countLeast(table, many));
                break;
            default:
                text.fraction(Tables.countLeastWith(table, many, member), Tables.countHeadsOfLeast(table, many));
                break;
        }
    }

    private void writeWeights(int body) {
        text.clear();
        if (now.members > Scales.MOST) {
            text.sign('?');
        } else if (scales.balance(now.tables[body], now.members)) {
            text.number(scales.quota);
            text.sign(':');
            for (int member = 0; member < now.members; member++) {
                if (member > 0) {
                    text.sign(' ');
                }
                text.number(scales.weights[member]);
            }
        } else {
            text.sign('!');
        }
    }

    private void writeTrade(int body) {
        text.clear();
        if (!found.find(now.tables[body], now.members)) {
            text.sign('-');
            return;
        }
        text.number(found.a);
        text.numberBehindBlank(found.b);
        text.sign('|');
        text.number(found.c);
        text.numberBehindBlank(found.d);
    }

    private void writeAll(int method, int house) {
        election.take(now);
        writeSeats(election.deal(method, house));
    }

    private void writeSeats(boolean isDone) {
        text.clear();
        if (!isDone) {
            text.sign('!');
            return;
        }
        for (int party = 0; party < now.parties; party++) {
            text.numberBehindBlank(election.seats[party]);
        }
    }

    private void writeRange(int method, int house) {
        text.clear();
        election.take(now);
        if (!election.deal(method, house)) {
            text.sign('!');
            return;
        }
        writeQuotient(election.findNext(method));
        text.sign('.');
        text.sign('.');
        writeQuotient(election.findLast(method));
    }

    private void writeQuotient(int party) {
        if (party == NONE) {
            text.sign('-');
        } else if (election.chosen.bottom == 0) {
            text.sign('*');
        } else {
            text.fraction(election.chosen.top, election.chosen.bottom);
        }
    }

    private void writeOdd(int method) {
        text.clear();
        election.take(now);
        int house = election.findOdd(method, LAST_ODD_HOUSE);
        if (house == NONE) {
            text.sign('-');
            return;
        }
        text.number(house);
        text.sign(':');
        text.number(election.loser);
    }

    private void writeShare(int party, int house) {
        text.clear();
        election.take(now);
        if (election.isIn(party)) {
            text.fraction((long) house * now.votes[party], election.total);
        } else {
            text.sign('-');
        }
    }

    private boolean isPowerSound(long table) {
        int many = now.members;
        if (!Tables.isRising(table, many)) {
            return false;
        }
        if (table == 0) {
            return true;
        }
        long dual = Tables.blocking(table, many);
        int orders = 0;
        for (int member = 0; member < many; member++) {
            orders += Tables.countOrders(table, many, member);
            if (Tables.countSwings(table, many, member) != Tables.countSwings(dual, many, member)) {
                return false;
            }
        }
        return orders == Tables.factorial(many);
    }

    private boolean areWeightsSound(long table) {
        int many = now.members;
        if (!scales.balance(table, many)) {
            return true;
        }
        return Tables.byQuota(scales.sums, many, scales.quota, 0) == table && !found.find(table, many);
    }

    private boolean areJoinsSound() {
        int many = now.members;
        long one = now.tables[0];
        long other = now.tables[1];
        for (int member = 0; member < many; member++) {
            int apart = Tables.countOrders(one, many, member) + Tables.countOrders(other, many, member);
            int joined = Tables.countOrders(one & other, many, member)
                    + Tables.countOrders(one | other, many, member);
            if (apart != joined) {
                return false;
            }
        }
        return true;
    }

    private boolean areHousesSound() {
        election.take(now);
        for (int method = 0; method < QUOTIENT_METHODS; method++) {
            if (election.findOdd(method, LAST_SOUND_HOUSE) != NONE) {
                return false;
            }
        }
        return true;
    }

    /** All that a call can change and undo() can give back. */
    private static final class State {
        private int members;
        private final int[] weights = new int[MOST_MEMBERS];
        private final int[][] likes = new int[MOST_MEMBERS][MOST_MEMBERS];
        private final int[] quarrels = new int[MOST_MEMBERS];
        private final long[] tables = new long[BODIES];
        private int parties;
        private final int[] votes = new int[MOST_PARTIES];
        private final int[] minima = new int[MOST_PARTIES];
        private int bar;

        void foundCouncil(int many) {
            members = many;
            for (int member = 0; member < MOST_MEMBERS; member++) {
                weights[member] = 1;
                quarrels[member] = 0;
                for (int other = 0; other < MOST_MEMBERS; other++) {
                    likes[member][other] = 5;
                }
            }
            for (int body = 0; body < BODIES; body++) {
                tables[body] = 0;
            }
        }

        void foundPoll(int many) {
            parties = many;
            for (int party = 0; party < MOST_PARTIES; party++) {
                votes[party] = 0;
                minima[party] = 0;
            }
        }

        void copy(State other) {
            members = other.members;
            parties = other.parties;
            bar = other.bar;
            System.arraycopy(other.weights, 0, weights, 0, MOST_MEMBERS);
            System.arraycopy(other.quarrels, 0, quarrels, 0, MOST_MEMBERS);
            System.arraycopy(other.tables, 0, tables, 0, BODIES);
            System.arraycopy(other.votes, 0, votes, 0, MOST_PARTIES);
            System.arraycopy(other.minima, 0, minima, 0, MOST_PARTIES);
            for (int member = 0; member < MOST_MEMBERS; member++) {
                System.arraycopy(other.likes[member], 0, likes[member], 0, MOST_MEMBERS);
            }
        }

        int allWeights() {
            int all = 0;
            for (int member = 0; member < members; member++) {
                all += weights[member];
            }
            return all;
        }

        /** Writes the weight of each group into the row of sums. */
        void weigh(int[] sums) {
            for (int group = 0; group < Tables.groups(members) && group < sums.length; group++) {
                int sum = 0;
                for (int member = 0; member < members; member++) {
                    sum += (group >> member & 1) * weights[member];
                }
                sums[group] = sum;
            }
        }

        int countQuarrels() {
            int ends = 0;
            for (int member = 0; member < members; member++) {
                ends += Integer.bitCount(quarrels[member]);
            }
            return ends / 2;
        }

        boolean isPeaceful(int group) {
            for (int member = 0; member < members; member++) {
                if ((group >> member & 1) != 0 && (quarrels[member] & group) != 0) {
                    return false;
                }
            }
            return true;
        }

        int hold(int group) {
            if (!isPeaceful(group)) {
                return NONE;
            }
            int least = 9;
            for (int a = 0; a < members; a++) {
                for (int b = a + 1; b < members; b++) {
                    if ((group >> a & 1) != 0 && (group >> b & 1) != 0 && likes[a][b] < least) {
                        least = likes[a][b];
                    }
                }
            }
            return least;
        }
    }

    /** The last ten states, in a ring whose rows are used again. */
    private static final class Past {
        private static final int MOST = 10;
        private final State[] states = new State[MOST];
        private int next;
        private int kept;

        Past() {
            for (int place = 0; place < MOST; place++) {
                states[place] = new State();
            }
        }

        void keep(State state) {
            State row = states[next];
            if (row == null) {
                return;
            }
            row.copy(state);
            next = next < MOST - 1 ? next + 1 : 0;
            if (kept < MOST) {
                kept++;
            }
        }

        void giveBack(State state) {
            int last = next > 0 ? next - 1 : MOST - 1;
            State row = states[last];
            if (kept == 0 || row == null) {
                return;
            }
            state.copy(row);
            next = last;
            kept--;
        }
    }

    /** Reads tables of winning groups of so many members: bit g of a table tells whether group g wins. */
    private static final class Tables {
        private static final int ALL_PARTS = 60;

        static int groups(int many) {
            return 1 << many;
        }

        static int everyone(int many) {
            return groups(many) - 1;
        }

        static boolean has(long table, int group) {
            return (table >>> group & 1) != 0;
        }

        static int factorial(int many) {
            int product = 1;
            for (int factor = 2; factor <= many; factor++) {
                product *= factor;
            }
            return product;
        }

        static long byQuota(int[] sums, int many, int quota, int heads) {
            long table = 0;
            for (int group = 0; group < groups(many) && group < sums.length; group++) {
                if (sums[group] >= quota && Integer.bitCount(group) >= heads) {
                    table |= 1L << group;
                }
            }
            return table;
        }

        /** The groups that have the whole part in them. */
        static long having(int many, int part) {
            long table = 0;
            for (int group = 0; group < groups(many); group++) {
                if ((group & part) == part) {
                    table |= 1L << group;
                }
            }
            return table;
        }

        /** The groups without which nobody wins: those that block, or win in the dual. */
        static long blocking(long table, int many) {
            long blocking = 0;
            for (int group = 0; group < groups(many); group++) {
                if (!has(table, everyone(many) ^ group)) {
                    blocking |= 1L << group;
                }
            }
            return blocking;
        }

        static long withBloc(long table, int many, int bloc) {
            int leader = bloc & -bloc;
            long made = 0;
            for (int group = 0; group < groups(many); group++) {
                int going = group & ~bloc | ((group & leader) != 0 ? bloc : 0);
                if (has(table, going)) {
                    made |= 1L << group;
                }
            }
            return made;
        }

        static long withInner(long table, int many, int member, long inner) {
            int replaced = 1 << member;
            long made = 0;
            for (int group = 0; group < groups(many); group++) {
                int going = group & ~replaced | (has(inner, group) ? replaced : 0);
                if (has(table, going)) {
                    made |= 1L << group;
                }
            }
            return made;
        }

        static boolean isLeast(long table, int many, int group) {
            if (!has(table, group)) {
                return false;
            }
            // Who has a winning group in it wins, too: the parts with one member less tell of all others.
            for (int member = 0; member < many; member++) {
                if ((group >> member & 1) != 0 && has(table, group ^ 1 << member)) {
                    return false;
                }
            }
            return true;
        }

        static int countLeast(long table, int many) {
            int count = 0;
            for (int group = 0; group < groups(many); group++) {
                count += isLeast(table, many, group) ? 1 : 0;
            }
            return count;
        }

        static int countLeastWith(long table, int many, int member) {
            int count = 0;
            for (int group = 0; group < groups(many); group++) {
                count += (group >> member & 1) != 0 && isLeast(table, many, group) ? 1 : 0;
            }
            return count;
        }

        /** How many least groups the members have, one by one, all together. */
        static int countHeadsOfLeast(long table, int many) {
            int count = 0;
            for (int group = 0; group < groups(many); group++) {
                count += isLeast(table, many, group) ? Integer.bitCount(group) : 0;
            }
            return count;
        }

        /** For each least group with the member 1 divided by how many it has, told in sixtieths. */
        static int leastParts(long table, int many, int member) {
            int parts = 0;
            for (int group = 0; group < groups(many); group++) {
                int heads = Integer.bitCount(group);
                if (heads > 0 && (group >> member & 1) != 0 && isLeast(table, many, group)) {
                    parts += ALL_PARTS / heads;
                }
            }
            return parts;
        }

        static boolean isProper(long table, int many) {
            // A stranger of a group is a part of all others, so these win if it does.
            return (table & ~blocking(table, many)) == 0;
        }

        static boolean isStrong(long table, int many) {
            return (blocking(table, many) & ~table) == 0;
        }

        static boolean isRising(long table, int many) {
            for (int group = 0; group < groups(many); group++) {
                if (has(table, group) && (having(many, group) & ~table) != 0) {
                    return false;
                }
            }
            return !has(table, 0);
        }

        static boolean isSwing(long table, int group, int member) {
            return (group >> member & 1) == 0 && !has(table, group) && has(table, group | 1 << member);
        }

        static int countSwings(long table, int many, int member) {
            int count = 0;
            for (int group = 0; group < groups(many); group++) {
                count += isSwing(table, group, member) ? 1 : 0;
            }
            return count;
        }

        static int countAllSwings(long table, int many) {
            int count = 0;
            for (int member = 0; member < many; member++) {
                count += countSwings(table, many, member);
            }
            return count;
        }

        /** How many of all orders turn with the member. */
        static int countOrders(long table, int many, int member) {
            int orders = 0;
            for (int group = 0; group < groups(many); group++) {
                if (isSwing(table, group, member)) {
                    int ahead = Integer.bitCount(group);
                    orders += factorial(ahead) * factorial(many - ahead - 1);
                }
            }
            return orders;
        }

        static int dictator(long table, int many) {
            for (int member = 0; member < many; member++) {
                if (countSwings(table, many, member) == 1 << many - 1) {
                    return member;
                }
            }
            return NONE;
        }

        static int vetoers(long table, int many) {
            if (table == 0) {
                return 0;
            }
            int common = everyone(many);
            for (int group = 0; group < groups(many); group++) {
                if (has(table, group)) {
                    common &= group;
                }
            }
            return common;
        }

        static int idlers(long table, int many) {
            int idle = 0;
            for (int member = 0; member < many; member++) {
                if (countSwings(table, many, member) == 0) {
                    idle |= 1 << member;
                }
            }
            return idle;
        }

        static int turning(long table, int many, int order) {
            int came = 0;
            int rest = order;
            for (int left = many; left > 0; left--) {
                int next = memberAt(came, many, rest % left);
                rest /= left;
                came |= 1 << next;
                if (has(table, came)) {
                    return next;
                }
            }
            return NONE;
        }

        private static int memberAt(int came, int many, int place) {
            int ahead = 0;
            for (int member = 0; member < many; member++) {
                if ((came >> member & 1) == 0) {
                    if (ahead == place) {
                        return member;
                    }
                    ahead++;
                }
            }
            return 0;
        }

        static boolean areExchangeable(long table, int many, int a, int b) {
            int both = 1 << a | 1 << b;
            for (int group = 0; group < groups(many); group++) {
                boolean isOfOne = (group >> a & 1) != (group >> b & 1);
                if (isOfOne && has(table, group) != has(table, group ^ both)) {
                    return false;
                }
            }
            return true;
        }
    }

    /** The bodies of up to four members, by rising tables. */
    private static final class Catalogue {
        private static final int MOST = 4;
        private static final int[] SIZES = {2, 3, 6, 20, 168};
        private final int[][] tables = new int[MOST + 1][];

        Catalogue() {
            tables[0] = new int[] {0, 1};
            for (int many = 1; many <= MOST; many++) {
                tables[many] = grown(tables[many - 1], 1 << many - 1, SIZES[many]);
            }
        }

        /** With a member more: a table for the groups with it above one for those without it that lies within. */
        private static int[] grown(int[] lower, int groups, int size) {
            int[] grown = new int[size];
            int count = 0;
            for (int with : lower) {
                for (int without : lower) {
                    if ((without & ~with) == 0 && count < size) {
                        grown[count] = with << groups | without;
                        count++;
                    }
                }
            }
            return grown;
        }

        /** The last table of a row is left out: by that the empty group would win. */
        private int count(int many) {
            return many < 0 || many > MOST ? 0 : tables[many].length - 1;
        }

        int tableOf(int number, int many) {
            return number >= 0 && number < count(many) ? tables[many][number] : NONE;
        }

        int numberOf(long table, int many) {
            for (int number = 0; number < count(many); number++) {
                if (tables[many][number] == table) {
                    return number;
                }
            }
            return NONE;
        }
    }

    /** The first trade of a body: groups a and b that win against c and d that do not. */
    private static final class Trade {
        private int a;
        private int b;
        private int c;
        private int d;

        boolean find(long table, int many) {
            int groups = Tables.groups(many);
            for (int one = 1; one < groups; one++) {
                for (int other = one; Tables.has(table, one) && other < groups; other++) {
                    if (Tables.has(table, other) && findLosers(table, one, other)) {
                        a = one;
                        b = other;
                        return true;
                    }
                }
            }
            return false;
        }

        private boolean findLosers(long table, int winner, int other) {
            int union = winner | other;
            for (int loser = winner & other; loser <= union; loser++) {
                // Whom both winners have, both losers have; of the rest each of them has a part.
                boolean fits = (winner & other & ~loser) == 0 && (loser & ~union) == 0;
                int last = winner ^ other ^ loser;
                if (fits && loser <= last && !Tables.has(table, loser) && !Tables.has(table, last)) {
                    c = loser;
                    d = last;
                    return true;
                }
            }
            return false;
        }
    }

    /** The least whole weights of a body. */
    private static final class Scales {
        private static final int MOST = 5;
        private static final int HEAVIEST = 6;
        private static final int ABOVE_ALL = 1000;
        private final int[] weights = new int[MOST];
        private final int[] sums = new int[1 << MOST];
        // At place k: of the groups of the first k members the least that wins, the greatest that does not.
        private final int[] leastWinning = new int[MOST + 1];
        private final int[] greatestLosing = new int[MOST + 1];
        private final Trade trade = new Trade();
        private int quota;

        boolean balance(long table, int many) {
            // A trade has winners and losers of the same weight together, so no weights fit.
            if (many > MOST || trade.find(table, many)) {
                return false;
            }
            leastWinning[0] = ABOVE_ALL;
            greatestLosing[0] = 0;
            for (int sum = 0; sum <= HEAVIEST * many; sum++) {
                if (place(this, table, many, 0, sum)) {
                    quota = table == 0 ? sum + 1 : leastWinning[many];
                    return true;
                }
            }
            return false;
        }

        /** Gives weights to the member and to those behind it that are left together. */
        private static boolean place(Scales scales, long table, int many, int member, int left) {
            if (member >= many || member >= MOST) {
                return left == 0;
            }
            int rest = HEAVIEST * (many - member - 1);
            for (int weight = Math.max(0, left - rest); weight <= HEAVIEST && weight <= left; weight++) {
                if (scales.fits(table, member, weight)
                        && place(scales, table, many, member + 1, left - weight)) {
                    return true;
                }
            }
            return false;
        }

        private boolean fits(long table, int member, int weight) {
            int first = 1 << member;
            int winning = leastWinning[member];
            int losing = greatestLosing[member];
            weights[member] = weight;
            for (int group = 0; group < first; group++) {
                int sum = sums[group] + weight;
                sums[first + group] = sum;
                if (Tables.has(table, first + group)) {
                    winning = Math.min(winning, sum);
                } else {
                    losing = Math.max(losing, sum);
                }
            }
            leastWinning[member + 1] = winning;
            greatestLosing[member + 1] = losing;
            return winning > losing;
        }
    }

    /** The votes of a party divided by its step. */
    private static final class Quotient {
        private int votes;
        private long top;
        private long bottom;

        void set(int method, int ofVotes, int seats) {
            votes = ofVotes;
            long step = seats;
            switch (method) {
                case 0: top = votes; bottom = step + 1; break;
                case 1: top = 2L * votes; bottom = 2 * step + 1; break;
                case 2: top = votes; bottom = step; break;
                case ROOT: top = (long) votes * votes; bottom = step * (step + 1); break;
                default: top = votes * (2 * step + 1); bottom = 2 * step * (step + 1); break;
            }
        }

        void copy(Quotient other) {
            votes = other.votes;
            top = other.top;
            bottom = other.bottom;
        }

        boolean isAbove(Quotient other) {
            if (bottom == 0 || other.bottom == 0) {
                return bottom == 0 && (other.bottom != 0 || votes > other.votes);
            }
            return top * other.bottom > other.top * bottom;
        }
    }

    /** Deals the seats of a house to the parties of a state, or of one with other votes. */
    private static final class Election {
        private final int[] votes = new int[MOST_PARTIES];
        private final int[] minima = new int[MOST_PARTIES];
        private final int[] seats = new int[MOST_PARTIES];
        private final int[] seatsBefore = new int[MOST_PARTIES];
        private final int[] rests = new int[MOST_PARTIES];
        private final boolean[] areIn = new boolean[MOST_PARTIES];
        private final Quotient chosen = new Quotient();
        private final Quotient other = new Quotient();
        private int parties;
        private int bar;
        private int allVotes;
        private int total;
        private int needed;
        private int loser;

        void take(State state) {
            parties = state.parties;
            bar = state.bar;
            System.arraycopy(state.votes, 0, votes, 0, MOST_PARTIES);
            System.arraycopy(state.minima, 0, minima, 0, MOST_PARTIES);
            count();
        }

        void merge(int a, int b) {
            votes[a] += votes[b];
            minima[a] += minima[b];
            votes[b] = 0;
            minima[b] = 0;
            count();
        }

        void move(int a, int b, int most) {
            int going = Math.min(most, votes[a]);
            votes[a] -= going;
            votes[b] += going;
            count();
        }

        void add(int party, int more) {
            votes[party] += more;
            count();
        }

        private void count() {
            allVotes = 0;
            total = 0;
            needed = 0;
            for (int party = 0; party < parties; party++) {
                allVotes += votes[party];
            }
            for (int party = 0; party < parties; party++) {
                areIn[party] = votes[party] > 0 && 100 * votes[party] >= bar * allVotes;
                total += areIn[party] ? votes[party] : 0;
                needed += areIn[party] ? minima[party] : 0;
            }
        }

        boolean isIn(int party) {
            return areIn[party];
        }

        int countIn() {
            int count = 0;
            for (int party = 0; party < parties; party++) {
                count += areIn[party] ? 1 : 0;
            }
            return count;
        }

        /** False, and nobody has a seat, if the house has too few for all minima. */
        boolean deal(int method, int house) {
            boolean isDone = needed <= house;
            for (int party = 0; party < MOST_PARTIES; party++) {
                seats[party] = isDone && party < parties && areIn[party] ? minima[party] : 0;
            }
            if (!isDone || total == 0) {
                return isDone;
            }
            if (method == RESTS) {
                dealByRests(house - needed);
                return true;
            }
            for (int left = house - needed; left > 0; left--) {
                int next = findNext(method);
                if (next != NONE) {
                    seats[next]++;
                }
            }
            return true;
        }

        private void dealByRests(int free) {
            int left = free;
            for (int party = 0; party < parties; party++) {
                rests[party] = NONE;
                if (areIn[party] && total > 0) {
                    int product = free * votes[party];
                    seats[party] += product / total;
                    left -= product / total;
                    rests[party] = product % total;
                }
            }
            for (; left > 0; left--) {
                giveToGreatestRest();
            }
        }

        private void giveToGreatestRest() {
            int greatest = 0;
            for (int party = 1; party < parties; party++) {
                if (rests[party] > rests[greatest]) {
                    greatest = party;
                }
            }
            seats[greatest]++;
            rests[greatest] = NONE;
        }

        /** The party whose quotient comes next, which is the chosen one then; NONE if none is in. */
        int findNext(int method) {
            int next = NONE;
            for (int party = 0; party < parties; party++) {
                if (areIn[party]) {
                    other.set(method, votes[party], seats[party]);
                    if (next == NONE || other.isAbove(chosen)) {
                        next = party;
                        chosen.copy(other);
                    }
                }
            }
            return next;
        }

        /** The party with the smallest quotient by which a seat went, which is the chosen one then; NONE without. */
        int findLast(int method) {
            int last = NONE;
            for (int party = 0; party < parties; party++) {
                if (areIn[party] && seats[party] > minima[party]) {
                    other.set(method, votes[party], seats[party] - 1);
                    if (last == NONE || chosen.isAbove(other)) {
                        last = party;
                        chosen.copy(other);
                    }
                }
            }
            return last;
        }

        /** The first odd house up to the last one, NONE without; loser is the first party with fewer seats then. */
        int findOdd(int method, int last) {
            boolean wasDone = deal(method, 0);
            for (int house = 0; house <= last; house++) {
                System.arraycopy(seats, 0, seatsBefore, 0, MOST_PARTIES);
                boolean isDone = deal(method, house + 1);
                if (wasDone && isDone && findLoser()) {
                    return house;
                }
                wasDone = isDone;
            }
            return NONE;
        }

        private boolean findLoser() {
            for (int party = 0; party < parties; party++) {
                if (seats[party] < seatsBefore[party]) {
                    loser = party;
                    return true;
                }
            }
            return false;
        }

        /** How many parties have seats beyond both sides of their share. */
        int countMissed(int house) {
            int missed = 0;
            for (int party = 0; party < parties; party++) {
                if (areIn[party] && total > 0) {
                    int product = house * votes[party];
                    int down = product / total;
                    int up = product % total > 0 ? down + 1 : down;
                    missed += seats[party] < down || seats[party] > up ? 1 : 0;
                }
            }
            return missed;
        }
    }

    /** The text of one answer; its row of signs is used again for the next one. */
    private static final class Text {
        private static final long GREATEST_UNIT = 1000000000000000000L;
        private final char[] signs = new char[200];
        private int length;

        void clear() {
            length = 0;
        }

        void sign(char sign) {
            if (length < signs.length) {
                signs[length] = sign;
                length++;
            }
        }

        void number(long number) {
            long rest = number;
            if (rest < 0) {
                sign('-');
                rest = -rest;
            }
            boolean isBegun = false;
            for (long unit = GREATEST_UNIT; unit > 0; unit /= 10) {
                long digit = rest / unit % 10;
                isBegun = isBegun || digit > 0 || unit == 1;
                if (isBegun) {
                    sign((char) ('0' + digit));
                }
            }
        }

        /** A blank is put ahead, but not at the start. */
        void numberBehindBlank(long number) {
            if (length > 0) {
                sign(' ');
            }
            number(number);
        }

        void fraction(long top, long bottom) {
            long common = greatestCommon(top, bottom);
            if (common == 0) {
                return;
            }
            number(top / common);
            if (bottom != common) {
                sign('/');
                number(bottom / common);
            }
        }

        private static long greatestCommon(long one, long other) {
            long a = one;
            long b = other;
            for (int step = 0; step < 200 && b != 0; step++) {
                long rest = a % b;
                a = b;
                b = rest;
            }
            return a;
        }

        String made() {
            char[] exact = new char[length];
            System.arraycopy(signs, 0, exact, 0, length);
            return new String(exact);
        }
    }
}
