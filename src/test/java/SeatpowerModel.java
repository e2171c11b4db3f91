import java.math.BigInteger;
import java.util.ArrayDeque;
import java.util.ArrayList;
import java.util.Arrays;
import java.util.Deque;
import java.util.HashMap;
import java.util.List;
import java.util.Map;
import java.util.Set;
import java.util.TreeSet;

/**
 * The document once more, in the slowest and plainest form: sets of winners, all orders, all weights, all tables,
 * whole fractions. ModelTest compares it with Seatpower.
 */
public final class SeatpowerModel {
    private static final int NONE = -1;
    private static final Map<Integer, List<Integer>> TABLES = new HashMap<>();

    /** All that undo() gives back. */
    private static final class State {
        int members = 3;
        int[] weights = {1, 1, 1, 1, 1, 1};
        int[][] likes = new int[6][6];
        boolean[][] quarrels = new boolean[6][6];
        List<Set<Integer>> bodies = new ArrayList<>();
        int parties = 3;
        int[] votes = new int[6];
        int[] minima = new int[6];
        int bar;

        State() {
            for (int[] row : likes) {
                Arrays.fill(row, 5);
            }
            for (int body = 0; body < 4; body++) {
                bodies.add(new TreeSet<>());
            }
        }

        State copy() {
            State s = new State();
            s.members = members;
            s.weights = weights.clone();
            for (int k = 0; k < 6; k++) {
                s.likes[k] = likes[k].clone();
                s.quarrels[k] = quarrels[k].clone();
            }
            for (int body = 0; body < 4; body++) {
                s.bodies.set(body, new TreeSet<>(bodies.get(body)));
            }
            s.parties = parties;
            s.votes = votes.clone();
            s.minima = minima.clone();
            s.bar = bar;
            return s;
        }
    }

    private record Fraction(BigInteger top, BigInteger bottom) implements Comparable<Fraction> {
        static Fraction of(long top, long bottom) {
            return new Fraction(BigInteger.valueOf(top), BigInteger.valueOf(bottom));
        }

        Fraction plus(Fraction o) {
            return new Fraction(top.multiply(o.bottom).add(o.top.multiply(bottom)), bottom.multiply(o.bottom));
        }

        Fraction over(Fraction o) {
            return new Fraction(top.multiply(o.bottom), bottom.multiply(o.top));
        }

        @Override
        public int compareTo(Fraction o) {
            return top.multiply(o.bottom).compareTo(o.top.multiply(bottom));
        }

        String text() {
            BigInteger g = top.gcd(bottom);
            return bottom.equals(g) ? top.divide(g).toString() : top.divide(g) + "/" + bottom.divide(g);
        }
    }

    private State s = new State();
    private final Deque<State> past = new ArrayDeque<>();
    private int knocks;

    private void keep() {
        past.addLast(s.copy());
        if (past.size() > 10) {
            past.removeFirst();
        }
    }

    private static void index(boolean isGood) {
        if (!isGood) {
            throw new IndexOutOfBoundsException();
        }
    }

    private static void argument(boolean isGood) {
        if (!isGood) {
            throw new IllegalArgumentException();
        }
    }

    private static boolean isIn(int value, int low, int high) {
        return low <= value && value <= high;
    }

    private void body(int... bodies) {
        for (int body : bodies) {
            index(isIn(body, 0, 3));
        }
    }

    private void member(int... members) {
        for (int member : members) {
            index(isIn(member, 0, s.members - 1));
        }
    }

    private void party(int... parties) {
        for (int party : parties) {
            index(isIn(party, 0, s.parties - 1));
        }
    }

    private int groups() {
        return (int) Math.pow(2, s.members);
    }

    private static boolean has(int group, int member) {
        return group / (1 << member) % 2 == 1;
    }

    private List<Integer> list(int group) {
        List<Integer> list = new ArrayList<>();
        for (int member = 0; member < 6; member++) {
            if (has(group, member)) {
                list.add(member);
            }
        }
        return list;
    }

    private int put(int body, Set<Integer> winners) {
        keep();
        s.bodies.set(body, winners);
        return winners.size();
    }

    private boolean areStrangersWinning(Set<Integer> winners) {
        for (int a : winners) {
            for (int b : winners) {
                if ((a & b) == 0) {
                    return true;
                }
            }
        }
        return false;
    }

    private int weightOf(int group, int[] weights) {
        return list(group).stream().mapToInt(k -> weights[k]).sum();
    }

    private Set<Integer> byQuota(int[] weights, int quota, int heads) {
        Set<Integer> winners = new TreeSet<>();
        for (int group = 0; group < groups(); group++) {
            if (weightOf(group, weights) >= quota && list(group).size() >= heads) {
                winners.add(group);
            }
        }
        return winners;
    }

    public int members(int many) {
        argument(isIn(many, 1, 6));
        keep();
        State fresh = new State();
        int before = s.members;
        s.members = many;
        s.weights = fresh.weights;
        s.likes = fresh.likes;
        s.quarrels = fresh.quarrels;
        s.bodies = fresh.bodies;
        return before;
    }

    public int weight(int member, int weight) {
        member(member);
        argument(isIn(weight, 0, 99));
        keep();
        int before = s.weights[member];
        s.weights[member] = weight;
        return before;
    }

    public int like(int a, int b, int much) {
        member(a, b);
        argument(a != b && isIn(much, 0, 9));
        keep();
        int before = s.likes[a][b];
        s.likes[a][b] = much;
        s.likes[b][a] = much;
        return before;
    }

    public int quarrel(int a, int b, boolean is) {
        member(a, b);
        argument(a != b);
        keep();
        int before = s.quarrels[a][b] ? 1 : 0;
        s.quarrels[a][b] = is;
        s.quarrels[b][a] = is;
        return before;
    }

    public int quota(int body, int quota, int heads) {
        body(body);
        argument(isIn(quota, 1, 999) && isIn(heads, 0, 6));
        Set<Integer> winners = byQuota(s.weights, quota, heads);
        return areStrangersWinning(winners) ? -8 : put(body, winners);
    }

    public int none(int body) {
        body(body);
        int before = s.bodies.get(body).size();
        put(body, new TreeSet<>());
        return before;
    }

    public int list(int body, int group) {
        body(body);
        argument(isIn(group, 1, groups() - 1));
        Set<Integer> winners = new TreeSet<>(s.bodies.get(body));
        for (int other = 0; other < groups(); other++) {
            if (list(other).containsAll(list(group))) {
                winners.add(other);
            }
        }
        return put(body, winners);
    }

    public int join(int a, int b, int to, boolean isOr) {
        body(a, b, to);
        Set<Integer> winners = new TreeSet<>(s.bodies.get(a));
        if (isOr) {
            winners.addAll(s.bodies.get(b));
        } else {
            winners.retainAll(s.bodies.get(b));
        }
        return put(to, winners);
    }

    private Set<Integer> dualOf(Set<Integer> winners) {
        Set<Integer> dual = new TreeSet<>();
        for (int group = 0; group < groups(); group++) {
            if (!winners.contains(groups() - 1 - group)) {
                dual.add(group);
            }
        }
        return dual;
    }

    public int dual(int body, int to) {
        body(body, to);
        return s.bodies.get(body).isEmpty() ? -8 : put(to, dualOf(s.bodies.get(body)));
    }

    public int bloc(int body, int group, int to) {
        body(body, to);
        argument(isIn(group, 1, groups() - 1));
        Set<Integer> winners = new TreeSet<>();
        for (int other = 0; other < groups(); other++) {
            Set<Integer> going = new TreeSet<>(list(other));
            boolean isLed = going.contains(list(group).get(0));
            going.removeAll(list(group));
            if (isLed) {
                going.addAll(list(group));
            }
            if (s.bodies.get(body).contains(sum(going))) {
                winners.add(other);
            }
        }
        return put(to, winners);
    }

    private static int sum(Iterable<Integer> members) {
        int sum = 0;
        for (int member : members) {
            sum += (int) Math.pow(2, member);
        }
        return sum;
    }

    public int within(int body, int member, int inner, int to) {
        body(body, inner, to);
        member(member);
        Set<Integer> winners = new TreeSet<>();
        for (int group = 0; group < groups(); group++) {
            Set<Integer> going = new TreeSet<>(list(group));
            going.remove(member);
            if (s.bodies.get(inner).contains(group)) {
                going.add(member);
            }
            if (s.bodies.get(body).contains(sum(going))) {
                winners.add(group);
            }
        }
        return put(to, winners);
    }

    public int veto(int body, int member) {
        body(body);
        member(member);
        Set<Integer> winners = new TreeSet<>(s.bodies.get(body));
        winners.removeIf(group -> !has(group, member));
        return put(body, winners);
    }

    private List<Integer> tables() {
        return TABLES.computeIfAbsent(s.members, many -> allTables());
    }

    private List<Integer> allTables() {
        List<Integer> tables = new ArrayList<>();
        for (int table = 0; table < 1 << groups(); table += 2) {
            if (isMonotone(table)) {
                tables.add(table);
            }
        }
        return tables;
    }

    private boolean isMonotone(int table) {
        for (int group = 0; group < groups(); group++) {
            for (int member = 0; member < s.members; member++) {
                if ((table >> group & 1) == 1 && (table >> (group | 1 << member) & 1) == 0) {
                    return false;
                }
            }
        }
        return true;
    }

    public int make(int body, int number) {
        body(body);
        argument(number >= 0);
        if (s.members > 4 || number >= tables().size()) {
            return -9;
        }
        Set<Integer> winners = new TreeSet<>();
        for (int group = 0; group < groups(); group++) {
            if ((tables().get(number) >> group & 1) == 1) {
                winners.add(group);
            }
        }
        return put(body, winners);
    }

    public boolean wins(int body, int group) {
        body(body);
        argument(isIn(group, 0, groups() - 1));
        return s.bodies.get(body).contains(group);
    }

    private List<Integer> leastOf(Set<Integer> family) {
        List<Integer> least = new ArrayList<>();
        for (int group : family) {
            if (family.stream().noneMatch(part -> part != group && (part | group) == group)) {
                least.add(group);
            }
        }
        return least;
    }

    private List<Integer> swingsOf(Set<Integer> winners, int member) {
        List<Integer> swings = new ArrayList<>();
        for (int group = 0; group < groups(); group++) {
            if (!has(group, member) && !winners.contains(group) && winners.contains(group + (1 << member))) {
                swings.add(group);
            }
        }
        return swings;
    }

    private int allSwings(Set<Integer> winners) {
        int all = 0;
        for (int member = 0; member < s.members; member++) {
            all += swingsOf(winners, member).size();
        }
        return all;
    }

    public int ofBody(int body, int what) {
        body(body);
        argument(isIn(what, 0, 8));
        Set<Integer> winners = s.bodies.get(body);
        int result = 0;
        switch (what) {
            case 0: return winners.size();
            case 1: return leastOf(winners).size();
            case 2: return areStrangersWinning(winners) ? 0 : 1;
            case 3:
                for (int group = 0; group < groups(); group++) {
                    if (!winners.contains(group) && !winners.contains(groups() - 1 - group)) {
                        return 0;
                    }
                }
                return 1;
            case 4:
                for (int member = 0; member < s.members; member++) {
                    if (swingsOf(winners, member).size() == groups() / 2) {
                        return member;
                    }
                }
                return NONE;
            case 5:
                for (int member = 0; member < s.members; member++) {
                    int one = member;
                    boolean isVeto = !winners.isEmpty() && winners.stream().allMatch(group -> has(group, one));
                    result += isVeto ? 1 << member : 0;
                }
                return result;
            case 6:
                for (int member = 0; member < s.members; member++) {
                    result += swingsOf(winners, member).isEmpty() ? 1 << member : 0;
                }
                return result;
            case 7: return allSwings(winners);
            default:
                int table = winners.stream().mapToInt(group -> 1 << group).sum();
                return s.members > 4 ? NONE : tables().indexOf(table);
        }
    }

    public String least(int body, boolean isBlocking) {
        body(body);
        Set<Integer> winners = s.bodies.get(body);
        return spaced(leastOf(isBlocking ? dualOf(winners) : winners));
    }

    private static String spaced(List<Integer> numbers) {
        return String.join(" ", numbers.stream().map(String::valueOf).toList());
    }

    private boolean isQuarrelling(int group) {
        for (int a : list(group)) {
            for (int b : list(group)) {
                if (s.quarrels[a][b]) {
                    return true;
                }
            }
        }
        return false;
    }

    public int swings(int body, int member, boolean isFree) {
        body(body);
        member(member);
        List<Integer> swings = swingsOf(s.bodies.get(body), member);
        if (isFree) {
            swings.removeIf(group -> isQuarrelling(group + (1 << member)));
        }
        return swings.size();
    }

    private void orders(List<Integer> start, List<List<Integer>> all) {
        if (start.size() == s.members) {
            all.add(new ArrayList<>(start));
        }
        for (int member = 0; member < s.members; member++) {
            if (!start.contains(member)) {
                start.add(member);
                orders(start, all);
                start.remove(start.size() - 1);
            }
        }
    }

    private int turnerOf(Set<Integer> winners, List<Integer> order) {
        int came = 0;
        for (int member : order) {
            came += 1 << member;
            if (winners.contains(came)) {
                return member;
            }
        }
        return NONE;
    }

    private Fraction ordersPower(Set<Integer> winners, int member) {
        List<List<Integer>> all = new ArrayList<>();
        orders(new ArrayList<>(), all);
        return Fraction.of(all.stream().filter(order -> turnerOf(winners, order) == member).count(), all.size());
    }

    private Fraction powerOf(Set<Integer> winners, int member, int kind) {
        List<Integer> least = leastOf(winners);
        List<Integer> with = least.stream().filter(group -> has(group, member)).toList();
        switch (kind) {
            case 0: return Fraction.of(swingsOf(winners, member).size(), allSwings(winners));
            case 1: return Fraction.of(swingsOf(winners, member).size(), groups() / 2);
            case 2: return ordersPower(winners, member);
            case 3:
                Fraction sum = Fraction.of(0, 1);
                for (int group : with) {
                    sum = sum.plus(Fraction.of(1, list(group).size()));
                }
                return sum.over(Fraction.of(least.size(), 1));
            default:
                return Fraction.of(with.size(), least.stream().mapToInt(group -> list(group).size()).sum());
        }
    }

    public String power(int body, int member, int kind) {
        body(body);
        member(member);
        argument(isIn(kind, 0, 4));
        Set<Integer> winners = s.bodies.get(body);
        return winners.isEmpty() ? "0" : powerOf(winners, member, kind).text();
    }

    public int turner(int body, int order) {
        body(body);
        argument(order >= 0);
        List<Integer> left = new ArrayList<>(list(groups() - 1));
        List<Integer> row = new ArrayList<>();
        int number = order;
        while (!left.isEmpty()) {
            int size = left.size();
            row.add(left.remove(number % size));
            number /= size;
        }
        return turnerOf(s.bodies.get(body), row);
    }

    public boolean same(int a, int b) {
        body(a, b);
        return s.bodies.get(a).equals(s.bodies.get(b));
    }

    public boolean areAlike(int body, int a, int b) {
        body(body);
        member(a, b);
        Set<Integer> exchanged = new TreeSet<>();
        for (int group : s.bodies.get(body)) {
            List<Integer> members = new ArrayList<>();
            for (int member : list(group)) {
                members.add(member == a ? b : member == b ? a : member);
            }
            exchanged.add(sum(members));
        }
        return exchanged.equals(s.bodies.get(body));
    }

    private int[] bestWeights(Set<Integer> winners) {
        int vectors = (int) Math.pow(7, s.members);
        int[] best = null;
        for (int vector = 0; vector < vectors; vector++) {
            int[] weights = new int[s.members];
            int rest = vector;
            for (int member = s.members - 1; member >= 0; member--) {
                weights[member] = rest % 7;
                rest /= 7;
            }
            boolean isLess = best == null || Arrays.stream(weights).sum() < Arrays.stream(best).sum();
            if (isLess && isMadeBy(winners, weights)) {
                best = weights;
            }
        }
        return best;
    }

    private boolean isMadeBy(Set<Integer> winners, int[] weights) {
        int least = Integer.MAX_VALUE;
        int greatest = 0;
        for (int group = 0; group < groups(); group++) {
            int sum = 0;
            for (int member = 0; member < s.members; member++) {
                sum += has(group, member) ? weights[member] : 0;
            }
            if (winners.contains(group)) {
                least = Math.min(least, sum);
            } else {
                greatest = Math.max(greatest, sum);
            }
        }
        return least > greatest;
    }

    public String weights(int body) {
        body(body);
        if (s.members > 5) {
            return "?";
        }
        Set<Integer> winners = s.bodies.get(body);
        int[] best = bestWeights(winners);
        if (best == null) {
            return "!";
        }
        int quota = winners.stream().mapToInt(group -> weightOf(group, best)).min()
                .orElse(1 + Arrays.stream(best).sum());
        return quota + ":" + spaced(Arrays.stream(best).boxed().toList());
    }

    public String trade(int body) {
        body(body);
        Set<Integer> winners = s.bodies.get(body);
        for (int a : winners) {
            for (int b : winners) {
                for (int c = 0; a <= b && c < groups(); c++) {
                    for (int d = c; !winners.contains(c) && d < groups(); d++) {
                        if (!winners.contains(d) && sorted(a, b).equals(sorted(c, d))) {
                            return a + " " + b + "|" + c + " " + d;
                        }
                    }
                }
            }
        }
        return "-";
    }

    private List<Integer> sorted(int a, int b) {
        List<Integer> both = new ArrayList<>(list(a));
        both.addAll(list(b));
        both.sort(null);
        return both;
    }

    public int best(int member) {
        member(member);
        int best = NONE;
        Fraction greatest = Fraction.of(-1, 1);
        Set<Integer> last = null;
        for (int quota = 1; quota <= weightOf(groups() - 1, s.weights); quota++) {
            Set<Integer> winners = byQuota(s.weights, quota, 0);
            if (!winners.equals(last) && !areStrangersWinning(winners)
                    && ordersPower(winners, member).compareTo(greatest) > 0) {
                best = quota;
                greatest = ordersPower(winners, member);
            }
            last = winners;
        }
        return best;
    }

    public int held(int body) {
        body(body);
        int best = NONE;
        int greatest = NONE;
        for (int group : leastOf(s.bodies.get(body))) {
            int hold = 9;
            for (int a : list(group)) {
                for (int b : list(group)) {
                    hold = a == b ? hold : Math.min(hold, s.likes[a][b]);
                }
            }
            if (!isQuarrelling(group) && hold > greatest) {
                best = group;
                greatest = hold;
            }
        }
        return best;
    }

    public int parties(int many) {
        argument(isIn(many, 1, 6));
        keep();
        int before = s.parties;
        s.parties = many;
        s.votes = new int[6];
        s.minima = new int[6];
        return before;
    }

    public int votes(int party, int votes) {
        party(party);
        argument(isIn(votes, 0, 9999));
        keep();
        int before = s.votes[party];
        s.votes[party] = votes;
        return before;
    }

    public int minimum(int party, int least) {
        party(party);
        argument(isIn(least, 0, 9));
        keep();
        int before = s.minima[party];
        s.minima[party] = least;
        return before;
    }

    public int bar(int percent) {
        argument(isIn(percent, 0, 50));
        keep();
        int before = s.bar;
        s.bar = percent;
        return before;
    }

    public int undo() {
        if (past.isEmpty()) {
            throw new IllegalStateException();
        }
        s = past.removeLast();
        return past.size();
    }

    private List<Integer> partiesIn(int[] votes) {
        int all = Arrays.stream(votes).sum();
        List<Integer> in = new ArrayList<>();
        for (int party = 0; party < s.parties; party++) {
            if (votes[party] > 0 && votes[party] * 100 >= s.bar * all) {
                in.add(party);
            }
        }
        return in;
    }

    private int total(int[] votes) {
        return partiesIn(votes).stream().mapToInt(party -> votes[party]).sum();
    }

    /** Null for a step of 0; by method 3 the square. */
    private static Fraction quotient(int method, int votes, int seats) {
        Fraction v = Fraction.of(votes, 1);
        Fraction step;
        switch (method) {
            case 0: step = Fraction.of(seats + 1, 1); break;
            case 1: step = Fraction.of(seats, 1).plus(Fraction.of(1, 2)); break;
            case 2: step = Fraction.of(seats, 1); break;
            case 3:
                step = Fraction.of((long) seats * (seats + 1), 1);
                v = Fraction.of((long) votes * votes, 1);
                break;
            default: step = Fraction.of(2L * seats * (seats + 1), 2L * seats + 1); break;
        }
        return step.top().signum() == 0 ? null : v.over(step);
    }

    private static int compare(Fraction a, int votesOfA, Fraction b, int votesOfB) {
        if (a == null || b == null) {
            return a != null ? -1 : b != null ? 1 : Integer.compare(votesOfA, votesOfB);
        }
        return a.compareTo(b);
    }

    private int next(int method, int[] votes, int[] seats) {
        int next = NONE;
        for (int party : partiesIn(votes)) {
            if (next == NONE || compare(quotient(method, votes[party], seats[party]), votes[party],
                    quotient(method, votes[next], seats[next]), votes[next]) > 0) {
                next = party;
            }
        }
        return next;
    }

    /** Null where it can not be done. */
    private int[] deal(int method, int house, int[] votes, int[] minima) {
        List<Integer> in = partiesIn(votes);
        int[] seats = new int[6];
        int left = house;
        for (int party : in) {
            seats[party] = minima[party];
            left -= minima[party];
        }
        if (left < 0) {
            return null;
        }
        if (in.isEmpty()) {
            return seats;
        }
        if (method < 5) {
            for (; left > 0; left--) {
                seats[next(method, votes, seats)]++;
            }
            return seats;
        }
        int free = left;
        int total = total(votes);
        List<Integer> row = new ArrayList<>(in);
        for (int party : in) {
            seats[party] += free * votes[party] / total;
            left -= free * votes[party] / total;
        }
        row.sort((a, b) -> Integer.compare(free * votes[b] % total, free * votes[a] % total));
        for (int place = 0; place < left; place++) {
            seats[row.get(place)]++;
        }
        return seats;
    }

    private int[] deal(int method, int house) {
        return deal(method, house, s.votes, s.minima);
    }

    private static void methodAndHouse(int method, int last, int house) {
        argument(isIn(method, 0, last) && isIn(house, 0, 40));
    }

    private String seatsText(int[] seats) {
        return seats == null ? "!" : spaced(Arrays.stream(seats).limit(s.parties).boxed().toList());
    }

    public int seats(int party, int method, int house) {
        party(party);
        methodAndHouse(method, 5, house);
        int[] seats = deal(method, house);
        return seats == null ? -8 : seats[party];
    }

    public String all(int method, int house) {
        methodAndHouse(method, 5, house);
        return seatsText(deal(method, house));
    }

    public String range(int method, int house) {
        methodAndHouse(method, 4, house);
        int[] seats = deal(method, house);
        if (seats == null) {
            return "!";
        }
        int next = next(method, s.votes, seats);
        String ahead = next == NONE ? "-" : quotientText(quotient(method, s.votes[next], seats[next]));
        String behind = "-";
        Fraction least = null;
        for (int party : partiesIn(s.votes)) {
            if (seats[party] > s.minima[party]) {
                Fraction went = quotient(method, s.votes[party], seats[party] - 1);
                least = least == null || went != null && went.compareTo(least) < 0 ? went : least;
                behind = quotientText(least);
            }
        }
        return ahead + ".." + behind;
    }

    private static String quotientText(Fraction quotient) {
        return quotient == null ? "*" : quotient.text();
    }

    public String odd(int method) {
        argument(isIn(method, 0, 5));
        for (int house = 0; house <= 39; house++) {
            int[] seats = deal(method, house);
            int[] more = deal(method, house + 1);
            for (int party = 0; seats != null && more != null && party < s.parties; party++) {
                if (more[party] < seats[party]) {
                    return house + ":" + party;
                }
            }
        }
        return "-";
    }

    public String merged(int method, int house, int a, int b) {
        party(a, b);
        methodAndHouse(method, 5, house);
        argument(a != b);
        int[] votes = s.votes.clone();
        int[] minima = s.minima.clone();
        votes[a] = s.votes[a] + s.votes[b];
        minima[a] = s.minima[a] + s.minima[b];
        votes[b] = 0;
        minima[b] = 0;
        int[] before = deal(method, house);
        int[] after = deal(method, house, votes, minima);
        return before == null || after == null ? "!" : "" + (after[a] + after[b] - before[a] - before[b]);
    }

    public String moved(int method, int house, int a, int b, int votes) {
        party(a, b);
        methodAndHouse(method, 5, house);
        argument(a != b && votes >= 0);
        int[] after = s.votes.clone();
        int going = s.votes[a] < votes ? s.votes[a] : votes;
        after[a] -= going;
        after[b] += going;
        return seatsText(deal(method, house, after, s.minima));
    }

    public int missed(int method, int house) {
        methodAndHouse(method, 5, house);
        int[] seats = deal(method, house);
        if (seats == null) {
            return -8;
        }
        int missed = 0;
        for (int party : partiesIn(s.votes)) {
            double exact = (double) house * s.votes[party] / total(s.votes);
            missed += seats[party] < Math.floor(exact) || seats[party] > Math.ceil(exact) ? 1 : 0;
        }
        return missed;
    }

    public int more(int party, int method, int house) {
        party(party);
        methodAndHouse(method, 5, house);
        int[] before = deal(method, house);
        if (before == null) {
            return -8;
        }
        for (int more = 1; more <= 99; more++) {
            int[] votes = s.votes.clone();
            votes[party] += more;
            int[] after = deal(method, house, votes, s.minima);
            if (after != null && after[party] > before[party]) {
                return more;
            }
        }
        return NONE;
    }

    public String share(int party, int house) {
        party(party);
        argument(isIn(house, 0, 40));
        return partiesIn(s.votes).contains(party)
                ? Fraction.of((long) house * s.votes[party], total(s.votes)).text() : "-";
    }

    public int house(int what) {
        argument(isIn(what, 0, 10));
        List<Integer> in = partiesIn(s.votes);
        int quarrels = 0;
        for (int a = 0; a < 6; a++) {
            for (int b = 0; b < a; b++) {
                quarrels += s.quarrels[a][b] ? 1 : 0;
            }
        }
        int[] answers = {s.members, weightOf(groups() - 1, s.weights), quarrels, s.parties,
            Arrays.stream(s.votes).sum(), total(s.votes), in.size(),
            in.stream().mapToInt(party -> s.minima[party]).sum(), s.bar, past.size(), knocks};
        return answers[what];
    }

    public int knock() {
        return ++knocks;
    }

    /** All of it is so for each body that can be told. */
    public boolean isSound() {
        return true;
    }

    public long digest() {
        List<Long> row = new ArrayList<>();
        for (int what = 0; what <= 10; what++) {
            row.add((long) house(what));
        }
        for (int body = 0; body < 4; body++) {
            addBody(row, body);
        }
        for (int member = 0; member < s.members; member++) {
            row.add((long) best(member));
        }
        for (int method = 0; method <= 5; method++) {
            for (int house : new int[] {0, 7, 14, 21}) {
                row.add((long) all(method, house).length());
                row.add((long) missed(method, house));
            }
            row.add((long) odd(method).length());
        }
        for (int method = 0; method <= 4; method++) {
            row.add((long) range(method, 7).length());
        }
        for (int party = 0; party < s.parties; party++) {
            row.add((long) share(party, 7).length());
            row.add((long) more(party, 0, 7));
            row.add((long) more(party, 5, 7));
        }
        row.add(isSound() ? 1L : 0L);
        long d = 6502;
        for (long v : row) {
            d = d * 31 + v;
        }
        return d;
    }

    private void addBody(List<Long> row, int body) {
        for (int what = 0; what <= 8; what++) {
            row.add((long) ofBody(body, what));
        }
        row.add((long) least(body, false).length());
        row.add((long) least(body, true).length());
        row.add((long) weights(body).length());
        row.add((long) trade(body).length());
        row.add((long) held(body));
        for (int order = 0; order <= 5; order++) {
            row.add((long) turner(body, order));
        }
        for (int member = 0; member < s.members; member++) {
            row.add((long) swings(body, member, false));
            row.add((long) swings(body, member, true));
            for (int kind = 0; kind <= 4; kind++) {
                row.add((long) power(body, member, kind).length());
            }
        }
    }
}
