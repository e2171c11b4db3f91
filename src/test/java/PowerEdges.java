import java.util.ArrayList;
import java.util.Arrays;
import java.util.List;
import java.util.Set;

/** Part 2 of the document, and what one asks of bodies. */
final class PowerEdges {
    private static final String NO_WEIGHTS = "!";

    private PowerEdges() {
    }

    static void run() {
        groupsOfPartTwo();
        powersOfPartTwo();
        weightsOfPartTwo();
        askingOfGroups();
        askingOfBody();
        askingOfPowers();
        askingOfWeights();
    }

    private static void groupsOfPartTwo() {
        Edges.sentence("2", "LEAST: a GROUP that WINS, of which no part WINS.", PowerEdges::leastGroups);
        Edges.sentence("2", "A GROUP BLOCKS, if all others do not WIN;", PowerEdges::blocking);
        Edges.sentence("2", "LEAST BLOCKING: no part of it BLOCKS (so the empty one alone, if nobody WINS).",
                PowerEdges::leastBlocking);
        Edges.sentence("2", "(A part is another GROUP within it.)", PowerEdges::parts);
        Edges.sentence("2", "A SWING of a MEMBER: a GROUP without it that does not WIN, but does with it;",
                PowerEdges::swings);
        Edges.sentence("2", "FREE, if in that GROUP with it no two QUARREL.", PowerEdges::freeSwings);
        Edges.sentence("2", "IDLE: without a SWING.", PowerEdges::idle);
        Edges.sentence("2", "VETO: who is in each GROUP that WINS, if there is one.", PowerEdges::vetoes);
        Edges.sentence("2", "DICTATOR: whose SWINGS are all GROUPS without it.", PowerEdges::dictators);
        Edges.sentence("2", "PROPER: no two STRANGERS WIN.", PowerEdges::proper);
        Edges.sentence("2", "STRONG: of each GROUP and all others together one WINS at least.", PowerEdges::strong);
    }

    private static void leastGroups() {
        Edges.due("3 12", () -> Edges.listed(4, 15, 7, 3, 14, 12).least(0, false));
        Edges.due("1 6", () -> Edges.listed(3, 6, 1).least(0, false));
        Edges.due("1 2 4 8 16 32", () -> Edges.listed(6, 32, 16, 8, 4, 2, 1).least(0, false));
        Edges.due("63", () -> Edges.listed(6, 63).least(0, false));
        Edges.due("1", () -> Edges.listed(1, 1).least(0, false));
        Edges.due("", () -> Edges.listed(6).least(0, false));
        Edges.due("7 11 13 14 19 21 22 25 26 28 35 37 38 41 42 44 49 50 52 56", () -> Edges.made(x -> x.members(6),
                x -> x.quota(1, 1, 4), x -> x.dual(1, 0)).least(0, false));
    }

    private static void blocking() {
        for (int number = 0; number < 167; number++) {
            Seatpower x = Edges.listed(4);
            x.make(0, number);
            Set<Integer> winners = Edges.winners(x, 0);
            List<String> due = new ArrayList<>();
            for (int group = 0; group < 16; group++) {
                boolean isLeast = !winners.contains(15 - group);
                for (int part = 0; part < group; part++) {
                    isLeast &= (part & ~group) != 0 || winners.contains(15 - part);
                }
                if (isLeast) {
                    due.add("" + group);
                }
            }
            Edges.due(String.join(" ", due), () -> x.least(0, true));
        }
        Edges.due("3 5", () -> Edges.listed(3, 6, 1).least(0, true));
    }

    private static void leastBlocking() {
        for (int members = 1; members <= 6; members++) {
            int many = members;
            Edges.due("0", () -> Edges.listed(many).least(0, true));
            Edges.due("" + ((1 << many) - 1), () -> {
                Seatpower x = Edges.listed(many);
                for (int member = 0; member < many; member++) {
                    x.list(0, 1 << member);
                }
                return x.least(0, true);
            });
        }
        Edges.due("1 2 4 8 16 32", () -> Edges.listed(6, 63).least(0, true));
        Edges.due("4", () -> Edges.listed(3, 4).least(0, true));
        Edges.due("5 6 9 10", () -> Edges.listed(4, 3, 12).least(0, true));
    }

    private static void parts() {
        // No group is a part of itself, and the empty group is one of each other.
        Edges.due("7", () -> Edges.listed(3, 7).least(0, false));
        Edges.due("1", () -> Edges.listed(1, 1).least(0, true));
        Edges.due("0", () -> Edges.listed(1).least(0, true));
        // Parts may lack more than one member.
        Edges.due("1", () -> Edges.listed(4, 1, 7, 15).least(0, false));
        Edges.due(1, () -> Edges.listed(4, 1, 7, 15).ofBody(0, 1));
    }

    private static void swings() {
        Edges.due("1", () -> "" + Edges.listed(1, 1).swings(0, 0, false));
        Edges.due("4 0 0", () -> swingsOf(Edges.listed(3, 1)));
        Edges.due("1 1 1", () -> swingsOf(Edges.listed(3, 7)));
        Edges.due("1 1 1", () -> swingsOf(Edges.listed(3, 1, 2, 4)));
        Edges.due("3 1 1", () -> swingsOf(Edges.listed(3, 3, 5)));
        Edges.due("3 1 1", () -> swingsOf(Edges.listed(3, 1, 6)));
        Edges.due("0 0 0 0 0 0", () -> swingsOf(Edges.listed(6)));
        Edges.due("0 0 0 0 0 32", () -> swingsOf(Edges.listed(6, 32)));
        Edges.due("10 10 10 10 10 10", () -> swingsOf(Edges.made(x -> x.members(6), x -> x.quota(0, 4, 0))));
    }

    private static String swingsOf(Seatpower x) {
        List<String> all = new ArrayList<>();
        for (int member = 0; member < x.house(0); member++) {
            all.add("" + x.swings(0, member, false));
        }
        return String.join(" ", all);
    }

    private static void freeSwings() {
        Seatpower x = Edges.listed(4, 3, 5);
        Edges.due(6, () -> x.swings(0, 0, true));
        // Of 1, 2, 12, 9, 10, ... with 0: those with the member 3 fall away if 0 and 3 quarrel.
        x.quarrel(0, 3, true);
        Edges.due(3, () -> x.swings(0, 0, true));
        Edges.due(1, () -> x.swings(0, 1, true));
        Edges.due(2, () -> x.swings(0, 1, false));
        x.quarrel(0, 3, false);
        // A quarrel of two others counts where both are in the group with it.
        x.quarrel(1, 2, true);
        Edges.due(4, () -> x.swings(0, 0, true));
        Edges.due(2, () -> x.swings(0, 1, true));
        Edges.due(6, () -> x.swings(0, 0, false));
        Seatpower alone = Edges.listed(2, 1);
        alone.quarrel(0, 1, true);
        Edges.due(1, () -> alone.swings(0, 0, true));
        Edges.due(2, () -> alone.swings(0, 0, false));
        Edges.due(0, () -> alone.swings(0, 1, true));
    }

    private static void idle() {
        Edges.due(0, () -> Edges.listed(3, 3, 5, 6).ofBody(0, 6));
        Edges.due(1, () -> Edges.listed(3, 6).ofBody(0, 6));
        Edges.due(62, () -> Edges.listed(6, 1).ofBody(0, 6));
        for (int members = 1; members <= 6; members++) {
            int many = members;
            Edges.due((1 << many) - 1, () -> Edges.listed(many).ofBody(0, 6));
        }
    }

    private static void vetoes() {
        Edges.due(7, () -> Edges.listed(3, 7).ofBody(0, 5));
        Edges.due(1, () -> Edges.listed(3, 3, 5).ofBody(0, 5));
        Edges.due(6, () -> Edges.listed(3, 6).ofBody(0, 5));
        Edges.due(0, () -> Edges.listed(3, 3, 5, 6).ofBody(0, 5));
        Edges.due(0, () -> Edges.listed(3).ofBody(0, 5));
        Edges.due(0, () -> Edges.listed(6).ofBody(0, 5));
        Edges.due(32, () -> Edges.listed(6, 32).ofBody(0, 5));
    }

    private static void dictators() {
        for (int member = 0; member < 6; member++) {
            int one = member;
            Edges.due(one, () -> Edges.listed(6, 1 << one).ofBody(0, 4));
        }
        Edges.due(0, () -> Edges.listed(1, 1).ofBody(0, 4));
        Edges.due(-1, () -> Edges.listed(1).ofBody(0, 4));
        Edges.due(-1, () -> Edges.listed(3).ofBody(0, 4));
        // Not who only has a veto, nor who wins alone if others do so, too.
        Edges.due(-1, () -> Edges.listed(3, 3, 5).ofBody(0, 4));
        Edges.due(-1, () -> Edges.listed(3, 1, 6).ofBody(0, 4));
        Edges.due(-1, () -> Edges.listed(2, 3).ofBody(0, 4));
    }

    private static void proper() {
        for (int members = 1; members <= 6; members++) {
            int many = members;
            Edges.due(1, () -> Edges.listed(many).ofBody(0, 2));
            Edges.due(1, () -> Edges.listed(many, 1).ofBody(0, 2));
            Edges.due(1, () -> Edges.listed(many, (1 << many) - 1).ofBody(0, 2));
        }
        Edges.due(0, () -> Edges.listed(2, 1, 2).ofBody(0, 2));
        Edges.due(0, () -> Edges.listed(6, 1, 2).ofBody(0, 2));
        Edges.due(0, () -> Edges.listed(6, 7, 56).ofBody(0, 2));
        Edges.due(1, () -> Edges.listed(6, 7, 57).ofBody(0, 2));
    }

    private static void strong() {
        for (int members = 1; members <= 6; members++) {
            int many = members;
            Edges.due(0, () -> Edges.listed(many).ofBody(0, 3));
            Edges.due(1, () -> Edges.listed(many, 1).ofBody(0, 3));
            Edges.due(many == 1 ? 1 : 0, () -> Edges.listed(many, (1 << many) - 1).ofBody(0, 3));
        }
        Edges.due(1, () -> Edges.listed(3, 3, 5, 6).ofBody(0, 3));
        Edges.due(0, () -> Edges.listed(3, 3, 5).ofBody(0, 3));
        Edges.due(1, () -> Edges.listed(2, 1, 2).ofBody(0, 3));
        Edges.due(0, () -> Edges.made(x -> x.members(6), x -> x.quota(0, 4, 0)).ofBody(0, 3));
    }

    private static void powersOfPartTwo() {
        Edges.sentence("2", "POWER, with n MEMBERS: kind 0 SHARE: SWINGS of it, divided by SWINGS of all;", () -> {
            Edges.due("3/5 1/5 1/5", () -> powers(Edges.listed(3, 3, 5), 0));
            Edges.due("0 1/2 1/2", () -> powers(Edges.listed(3, 6), 0));
            Edges.due("1", () -> powers(Edges.listed(1, 1), 0));
            Edges.due("1/6 1/6 1/6 1/6 1/6 1/6", () -> powers(Edges.listed(6, 63), 0));
        });
        Edges.sentence("2", "1 ABSOLUTE: SWINGS divided by 2^(n - 1);", () -> {
            Edges.due("3/4 1/4 1/4", () -> powers(Edges.listed(3, 3, 5), 1));
            Edges.due("0 1/2 1/2", () -> powers(Edges.listed(3, 6), 1));
            Edges.due("1", () -> powers(Edges.listed(1, 1), 1));
            Edges.due("1/32 1/32 1/32 1/32 1/32 1/32", () -> powers(Edges.listed(6, 63), 1));
            Edges.due("0 0 0 0 0 1", () -> powers(Edges.listed(6, 32), 1));
        });
        Edges.sentence("2", "2 ORDERS: for each SWING with k MEMBERS k! * (n - k - 1)! / n!, all together;", () -> {
            Edges.due("2/3 1/6 1/6", () -> powers(Edges.listed(3, 3, 5), 2));
            Edges.due("1", () -> powers(Edges.listed(1, 1), 2));
            Edges.due("1/6 1/6 1/6 1/6 1/6 1/6", () -> powers(Edges.listed(6, 63), 2));
            Edges.due("1/6 1/6 1/6 1/6 1/6 1/6", () -> powers(Edges.listed(6, 1, 2, 4, 8, 16, 32), 2));
            Edges.due("1/2 1/10 1/10 1/10 1/10 1/10", () -> {
                Seatpower x = Edges.council(3, 1, 1, 1, 1, 1);
                x.quota(0, 5, 0);
                return powers(x, 2);
            });
        });
        Edges.sentence("2", "3 LEAST: for each LEAST GROUP with it 1 divided by how many it has, all together divided by"
                + " how many LEAST GROUPS there are;", () -> {
                    Edges.due("5/12 1/4 1/6 1/6", () -> powers(Edges.listed(4, 3, 13), 3));
                    Edges.due("1/4 1/12 1/12 1/12 1/6 1/3", () -> powers(Edges.listed(6, 15, 48, 33), 3));
                    Edges.due("1/10 1/10 1/10 1/10 1/10 1/2", () -> powers(Edges.listed(6, 31, 32), 3));
                    Edges.due("1/6 1/6 1/6 1/6 1/6 1/6", () -> powers(Edges.listed(6, 63), 3));
                    Edges.due("1 0", () -> powers(Edges.listed(2, 1), 3));
                });
        Edges.sentence("2", "4 PARTS: how many LEAST GROUPS have it, divided by how many all MEMBERS have, together.",
                () -> {
                    Edges.due("2/5 1/5 1/5 1/5", () -> powers(Edges.listed(4, 3, 13), 4));
                    Edges.due("1/4 1/8 1/8 1/8 1/8 1/4", () -> powers(Edges.listed(6, 15, 48, 33), 4));
                    Edges.due("1 0", () -> powers(Edges.listed(2, 1), 4));
                });
        Edges.sentence("2", "(0, if nobody WINS.)", () -> {
            for (int kind = 0; kind <= 4; kind++) {
                int one = kind;
                Edges.due("0", () -> powers(Edges.listed(1), one));
                Edges.due("0 0 0", () -> powers(Edges.listed(3), one));
                Edges.due("0 0 0 0 0 0", () -> powers(Edges.listed(6), one));
            }
        });
        Edges.sentence("2", "ORDER with a number: of the MEMBERS that are left, by rising numbers, that with the place"
                + " number mod (how many are left) comes; the number is divided by that then.", PowerEdges::orders);
        Edges.sentence("2", "It TURNS with whom those that came WIN first; NONE if never.", PowerEdges::turns);
    }

    private static String powers(Seatpower x, int kind) {
        List<String> all = new ArrayList<>();
        for (int member = 0; member < x.house(0); member++) {
            all.add(x.power(0, member, kind));
        }
        return String.join(" ", all);
    }

    private static void orders() {
        // Where all are needed, the last one turns.
        int[] last = {2, 2, 1, 1, 0, 0, 2, 2, 1, 1, 0, 0};
        for (int order = 0; order < last.length; order++) {
            int one = order;
            Edges.due(last[one], () -> Edges.listed(3, 7).turner(0, one));
        }
        Edges.due(0, () -> Edges.listed(6, 63).turner(0, 719));
        Edges.due(5, () -> Edges.listed(6, 63).turner(0, 720));
        Edges.due(5, () -> Edges.listed(6, 63).turner(0, Edges.HIGH));
        // By the greatest number 1, 2, 0, 4, 3, 5 come.
        Edges.due(2, () -> Edges.listed(6, 6).turner(0, Edges.HIGH));
        Edges.due(4, () -> Edges.listed(6, 20).turner(0, Edges.HIGH));
        Edges.due(3, () -> Edges.listed(6, 24).turner(0, Edges.HIGH));
        Edges.due(0, () -> Edges.listed(1, 1).turner(0, 0));
        Edges.due(0, () -> Edges.listed(1, 1).turner(0, Edges.HIGH));
        Edges.due(1, () -> Edges.listed(2, 3).turner(0, 0));
        Edges.due(0, () -> Edges.listed(2, 3).turner(0, 1));
        Edges.due(1, () -> Edges.listed(2, 3).turner(0, 2));
    }

    private static void turns() {
        Edges.due(1, () -> Edges.listed(3, 3, 5, 6).turner(0, 0));
        Edges.due(2, () -> Edges.listed(3, 4).turner(0, 0));
        Edges.due(1, () -> Edges.listed(3, 1, 2, 4).turner(0, 1));
        Edges.due(2, () -> Edges.listed(3, 1, 2, 4).turner(0, 2));
        for (int order : new int[] {0, 1, 5, 6, Edges.HIGH}) {
            Edges.due(-1, () -> Edges.listed(3).turner(0, order));
            Edges.due(-1, () -> Edges.listed(6).turner(3, order));
        }
    }

    private static void weightsOfPartTwo() {
        Edges.sentence("2", "WEIGHTS of a BODY (of at most 5 MEMBERS): a number of 0 to 6 for each MEMBER, so that each"
                + " GROUP that WINS has more than each one that does not (the empty one, too);", PowerEdges::weightsFit);
        Edges.sentence("2", "of all such that with the least sum, of several that with the smallest first number, then"
                + " the second, and so on.", PowerEdges::weightsAreLeast);
        Edges.sentence("2", "QUOTA of these: the least that a GROUP that WINS has; 1 more than all, if nobody WINS.",
                PowerEdges::quotaOfWeights);
        Edges.sentence("2", "TRADE: GROUPS a and b that WIN, a no more than b, and c and d that do not, c no more than"
                + " d, each MEMBER as often in a and b as in c and d;", PowerEdges::trades);
        Edges.sentence("2", "the first one by a, then by b, then by c.", PowerEdges::firstTrades);
        Edges.sentence("2", "HOLD of a GROUP: the least LIKE of two of it,", PowerEdges::holds);
        Edges.sentence("2", "9 of one alone;", PowerEdges::holdOfOne);
        Edges.sentence("2", "NONE if two of it QUARREL.", PowerEdges::holdOfQuarrels);
    }

    /** Bodies of five members of many kinds, some of which have no weights. */
    private static List<Seatpower> bodiesOfFive() {
        List<Seatpower> bodies = new ArrayList<>();
        int[][] weights = {{5, 4, 3, 2, 1}, {1, 2, 3, 4, 5}, {9, 7, 5, 3, 1}, {0, 1, 1, 1, 1}, {4, 4, 3, 3, 1},
            {99, 98, 50, 49, 2}, {5, 3, 3, 2, 2}, {2, 2, 3, 4, 6}, {7, 5, 4, 2, 1}};
        for (int[] row : weights) {
            int all = Arrays.stream(row).sum();
            for (int quota = all / 2 + 1; quota <= all; quota += 1 + all / 9) {
                Seatpower x = Edges.council(row);
                x.quota(0, quota, 0);
                bodies.add(x);
            }
        }
        bodies.add(Edges.listed(5, 3, 12));
        bodies.add(Edges.listed(5, 3, 24, 20));
        bodies.add(Edges.listed(5, 1, 30));
        bodies.add(Edges.listed(5, 1, 2, 4, 8, 16));
        bodies.add(Edges.listed(5, 31));
        bodies.add(Edges.listed(5));
        return bodies;
    }

    private static void weightsFit() {
        Edges.due("1:1", () -> Edges.listed(1, 1).weights(0));
        Edges.due("1:0 0 0 1", () -> Edges.listed(4, 8).weights(0));
        Edges.due("1:1 1 1 1 1", () -> Edges.listed(5, 1, 2, 4, 8, 16).weights(0));
        Edges.due("5:1 1 1 1 1", () -> Edges.listed(5, 31).weights(0));
        Edges.due(NO_WEIGHTS, () -> Edges.listed(4, 3, 12).weights(0));
        Edges.due(NO_WEIGHTS, () -> Edges.listed(5, 3, 28).weights(0));
        Edges.due("?", () -> Edges.listed(6, 1).weights(0));
        for (Seatpower x : bodiesOfFive()) {
            String told = x.weights(0);
            if (!told.equals(NO_WEIGHTS)) {
                String[] words = told.split("[: ]");
                int[] weights = Arrays.stream(words).skip(1).mapToInt(Integer::parseInt).toArray();
                Edges.due(5, () -> weights.length);
                Edges.due(true, () -> Arrays.stream(weights).allMatch(weight -> weight >= 0 && weight <= 6));
                Edges.due(true, () -> fits(weights, Edges.winners(x, 0)));
            }
        }
    }

    /** Each group that wins has more than each one that does not. */
    private static boolean fits(int[] weights, Set<Integer> winners) {
        int leastOfWinners = 1000;
        int mostOfOthers = 0;
        for (int group = 0; group < 1 << weights.length; group++) {
            int sum = 0;
            for (int member = 0; member < weights.length; member++) {
                sum += (group >> member & 1) * weights[member];
            }
            if (winners.contains(group)) {
                leastOfWinners = Math.min(leastOfWinners, sum);
            } else {
                mostOfOthers = Math.max(mostOfOthers, sum);
            }
        }
        return leastOfWinners > mostOfOthers;
    }

    /** Each body's weights among all rows of numbers of 0 to 6. */
    private static void weightsAreLeast() {
        for (Seatpower x : bodiesOfFive()) {
            Edges.due(leastWeights(x), () -> x.weights(0).replaceFirst(".*:", ""));
        }
        for (int members = 1; members <= 4; members++) {
            for (int number = 0; number < new int[] {0, 2, 5, 19, 167}[members]; number++) {
                Seatpower x = Edges.listed(members);
                x.make(0, number);
                Edges.due(leastWeights(x), () -> x.weights(0).replaceFirst(".*:", ""));
            }
        }
    }

    /** The first row of the least sum, when the first number rises slowest. */
    private static String leastWeights(Seatpower x) {
        int members = x.house(0);
        Set<Integer> winners = Edges.winners(x, 0);
        String least = NO_WEIGHTS;
        int leastSum = 1000;
        int[] weights = new int[members];
        for (int row = 0; row < Math.pow(7, members); row++) {
            int rest = row;
            for (int member = members - 1; member >= 0; member--) {
                weights[member] = rest % 7;
                rest /= 7;
            }
            int sum = Arrays.stream(weights).sum();
            if (sum < leastSum && fits(weights, winners)) {
                leastSum = sum;
                least = Arrays.toString(weights).replaceAll("[\\[\\],]", "");
            }
        }
        return least;
    }

    private static void quotaOfWeights() {
        for (int members = 1; members <= 5; members++) {
            int many = members;
            Edges.due("1:" + "0 ".repeat(many).strip(), () -> Edges.listed(many).weights(0));
        }
        Edges.due("2:1 1 1", () -> Edges.listed(3, 3, 5, 6).weights(0));
        Edges.due("3:1 1 1", () -> Edges.listed(3, 7).weights(0));
        Edges.due("3:2 1 1", () -> Edges.listed(3, 3, 5).weights(0));
        for (Seatpower x : bodiesOfFive()) {
            String told = x.weights(0);
            if (!told.equals(NO_WEIGHTS) && x.ofBody(0, 0) > 0) {
                String[] words = told.split("[: ]");
                int least = 1000;
                for (int group : Edges.winners(x, 0)) {
                    int sum = 0;
                    for (int member = 0; member < 5; member++) {
                        sum += (group >> member & 1) * Integer.parseInt(words[member + 1]);
                    }
                    least = Math.min(least, sum);
                }
                int due = least;
                Edges.due("" + due, () -> words[0]);
            }
        }
    }

    private static void trades() {
        Edges.due("-", () -> Edges.listed(1, 1).trade(0));
        Edges.due("-", () -> Edges.listed(6).trade(0));
        Edges.due("-", () -> Edges.listed(6, 63).trade(0));
        Edges.due("-", () -> Edges.listed(6, 1, 2, 4, 8, 16, 32).trade(0));
        for (Seatpower x : new Seatpower[] {Edges.listed(4, 3, 12), Edges.listed(5, 3, 28), Edges.listed(6, 7, 56),
            Edges.listed(6, 5, 10, 48), Edges.listed(6, 33, 18)}) {
            String[] words = x.trade(0).split("[ |]");
            int[] groups = Arrays.stream(words).mapToInt(Integer::parseInt).toArray();
            Edges.due("true true false false", () -> x.wins(0, groups[0]) + " " + x.wins(0, groups[1]) + " "
                    + x.wins(0, groups[2]) + " " + x.wins(0, groups[3]));
            Edges.due(true, () -> groups[0] <= groups[1] && groups[2] <= groups[3]);
            Edges.due(spread(groups[0]) + spread(groups[1]), () -> spread(groups[2]) + spread(groups[3]));
        }
    }

    /** How often each member is in a group, a digit each, so that no digit of two such together runs over. */
    private static int spread(int group) {
        return Integer.parseInt(Integer.toBinaryString(group), 4);
    }

    private static void firstTrades() {
        Edges.due("3 12|5 10", () -> Edges.listed(4, 3, 12).trade(0));
        Edges.due("5 10|3 12", () -> Edges.listed(6, 5, 10).trade(0));
        Edges.due("3 20|5 18", () -> Edges.listed(5, 3, 24, 20).trade(0));
        List<Seatpower> bodies = new ArrayList<>(bodiesOfFive());
        bodies.add(Edges.listed(6, 7, 56));
        bodies.add(Edges.listed(6, 5, 10, 48));
        bodies.add(Edges.listed(6, 33, 18, 12));
        for (int number = 0; number < 167; number++) {
            Seatpower x = Edges.listed(4);
            x.make(0, number);
            bodies.add(x);
        }
        for (Seatpower x : bodies) {
            Edges.due(firstTrade(x), () -> x.trade(0));
        }
    }

    private static String firstTrade(Seatpower x) {
        int groups = 1 << x.house(0);
        Set<Integer> winners = Edges.winners(x, 0);
        for (int a : winners) {
            for (int b : winners) {
                for (int c = 0; b >= a && c < groups; c++) {
                    for (int d = c; d < groups; d++) {
                        if (spread(a) + spread(b) == spread(c) + spread(d) && !winners.contains(c)
                                && !winners.contains(d)) {
                            return a + " " + b + "|" + c + " " + d;
                        }
                    }
                }
            }
        }
        return "-";
    }

    private static void holds() {
        Seatpower x = Edges.listed(4, 7, 12);
        Edges.due(7, () -> x.held(0));
        x.like(0, 2, 4);
        Edges.due(12, () -> x.held(0));
        x.like(2, 3, 4);
        Edges.due(7, () -> x.held(0));
        x.like(2, 3, 0);
        x.like(1, 2, 1);
        Edges.due(7, () -> x.held(0));
        x.like(1, 2, 0);
        Edges.due(7, () -> x.held(0));
        // The likes of those who are not in a group are no matter.
        Seatpower y = Edges.listed(3, 3, 6);
        y.like(0, 2, 0);
        y.like(1, 2, 6);
        Edges.due(6, () -> y.held(0));
    }

    private static void holdOfOne() {
        Seatpower x = Edges.listed(3, 3, 4);
        Edges.due(4, () -> x.held(0));
        x.like(0, 1, 8);
        Edges.due(4, () -> x.held(0));
        x.like(0, 1, 9);
        Edges.due(3, () -> x.held(0));
        Edges.due(1, () -> Edges.listed(1, 1).held(0));
    }

    private static void holdOfQuarrels() {
        Seatpower x = Edges.listed(3, 3, 6);
        x.like(0, 1, 9);
        x.like(1, 2, 0);
        x.quarrel(0, 1, true);
        Edges.due(6, () -> x.held(0));
        x.quarrel(0, 2, true);
        Edges.due(6, () -> x.held(0));
        x.quarrel(1, 2, true);
        Edges.due(-1, () -> x.held(0));
        x.quarrel(1, 0, false);
        Edges.due(3, () -> x.held(0));
    }

    private static void askingOfGroups() {
        Edges.sentence("Promise 15", "Returns whether it WINS.", () -> {
            Seatpower x = Edges.listed(6, 32);
            Edges.due(true, () -> x.wins(0, 63));
            Edges.due(true, () -> x.wins(0, 32));
            Edges.due(false, () -> x.wins(0, 31));
            Edges.due(false, () -> x.wins(0, 0));
            Edges.due(false, () -> x.wins(3, 63));
            Edges.due(Edges.ARGUMENT, () -> x.wins(0, 64));
            Edges.due(Edges.ARGUMENT, () -> x.wins(0, -1));
            Edges.due(Edges.ARGUMENT, () -> Edges.listed(1, 1).wins(0, 2));
            Edges.due(Edges.ARGUMENT, () -> Edges.listed(5, 1).wins(0, 32 + 1));
        });
        Edges.sentence("Promise 17", "Returns these GROUPS, rising, with a blank between two.", () -> {
            Edges.due("", () -> new Seatpower().least(0, false));
            Edges.due("0", () -> new Seatpower().least(0, true));
            Edges.due("7", () -> Edges.listed(3, 7).least(0, false));
            Edges.due("3 5 6", () -> Edges.listed(3, 6, 5, 3).least(0, false));
            Edges.due("3 12", () -> Edges.listed(4, 12, 3).least(0, false));
        });
        Edges.sentence("Promise 18", "Returns how many SWINGS it has.", () -> {
            swings();
            freeSwings();
        });
        Edges.sentence("Promise 21", "Returns whether the same GROUPS WIN.", () -> {
            Seatpower x = Edges.listed(6, 33);
            x.list(1, 33);
            Edges.due(true, () -> x.same(0, 1));
            Edges.due(true, () -> x.same(0, 0));
            Edges.due(true, () -> x.same(2, 3));
            Edges.due(false, () -> x.same(0, 3));
            x.list(1, 62);
            Edges.due(false, () -> x.same(0, 1));
            Edges.due(false, () -> x.same(1, 0));
            x.list(2, 31);
            Edges.due(false, () -> x.same(2, 3));
            // As many groups are not the same groups.
            x.list(3, 47);
            Edges.due(false, () -> x.same(2, 3));
        });
        Edges.sentence("Promise 22", "Returns whether it is the same if both are exchanged.", () -> {
            Seatpower x = Edges.listed(4, 3, 5);
            Edges.due(true, () -> x.areAlike(0, 1, 2));
            Edges.due(true, () -> x.areAlike(0, 2, 1));
            Edges.due(false, () -> x.areAlike(0, 0, 1));
            Edges.due(false, () -> x.areAlike(0, 3, 2));
            Edges.due(true, () -> x.areAlike(0, 3, 3));
            Edges.due(true, () -> x.areAlike(0, 0, 0));
            Edges.due(true, () -> x.areAlike(1, 0, 3));
            Edges.due(true, () -> Edges.listed(6, 33).areAlike(0, 0, 5));
            Edges.due(false, () -> Edges.listed(6, 33, 6).areAlike(0, 5, 1));
            Edges.due(true, () -> Edges.listed(6, 33, 6, 24).areAlike(0, 5, 0));
        });
    }

    private static void askingOfBody() {
        String part = "Promise 16";
        Edges.sentence(part, "0 how many GROUPS WIN,", () -> {
            Edges.due(0, () -> Edges.listed(3).ofBody(0, 0));
            Edges.due(63, () -> Edges.listed(6, 1, 2, 4, 8, 16, 32).ofBody(0, 0));
            Edges.due(32, () -> Edges.listed(6, 32).ofBody(0, 0));
        });
        Edges.sentence(part, "1 how many LEAST GROUPS,", () -> {
            Edges.due(0, () -> Edges.listed(3).ofBody(0, 1));
            Edges.due(6, () -> Edges.listed(6, 1, 2, 4, 8, 16, 32).ofBody(0, 1));
            Edges.due(2, () -> Edges.listed(3, 7, 3, 5).ofBody(0, 1));
        });
        Edges.sentence(part, "2 1 if it is PROPER, otherwise 0,", PowerEdges::proper);
        Edges.sentence(part, "3 1 if it is STRONG, otherwise 0,", PowerEdges::strong);
        Edges.sentence(part, "4 the DICTATOR, NONE without,", PowerEdges::dictators);
        Edges.sentence(part, "5 the set of those with a VETO,", PowerEdges::vetoes);
        Edges.sentence(part, "6 the set of IDLE ones,", PowerEdges::idle);
        Edges.sentence(part, "7 how many SWINGS all have,", () -> {
            Edges.due(0, () -> Edges.listed(3).ofBody(0, 7));
            Edges.due(5, () -> Edges.listed(3, 3, 5).ofBody(0, 7));
            Edges.due(60, () -> Edges.made(x -> x.members(6), x -> x.quota(0, 4, 0)).ofBody(0, 7));
            Edges.due(1, () -> Edges.listed(1, 1).ofBody(0, 7));
            // Quarrels are no matter here.
            Edges.due(2, () -> Edges.made(x -> x.members(2), x -> x.list(0, 3), x -> x.quarrel(0, 1, true))
                    .ofBody(0, 7));
        });
        Edges.sentence(part, "8 its number (NONE with more than 4 MEMBERS)", () -> {
            Edges.due(0, () -> Edges.listed(4).ofBody(0, 8));
            Edges.due(1, () -> Edges.listed(4, 15).ofBody(0, 8));
            Edges.due(166, () -> Edges.listed(4, 1, 2, 4, 8).ofBody(0, 8));
            Edges.due(1, () -> Edges.listed(1, 1).ofBody(0, 8));
            Edges.due(-1, () -> Edges.listed(5).ofBody(0, 8));
            Edges.due(-1, () -> Edges.listed(6, 63).ofBody(0, 8));
        });
        Edges.sentence(part, "Returns that.", () -> {
            int[] due = {4, 3, 1, 1, -1, 0, 0, 6, 10};
            for (int what = 0; what <= 8; what++) {
                int one = what;
                Edges.due(due[one], () -> Edges.listed(3, 3, 5, 6).ofBody(0, one));
            }
        });
    }

    private static void askingOfPowers() {
        Edges.sentence("Promise 19", "Returns its POWER.", () -> {
            String[] due = {"1/2", "5/8", "7/12", "1/3", "1/5"};
            for (int kind = 0; kind <= 4; kind++) {
                int one = kind;
                Edges.due(due[one], () -> Edges.listed(4, 3, 5, 8).power(0, 3, one));
                Edges.due("0", () -> Edges.listed(2, 1).power(0, 1, one));
                Edges.due("0", () -> Edges.listed(4, 3, 5, 8).power(1, 3, one));
                Edges.due("1", () -> Edges.listed(6, 32).power(0, 5, one));
            }
            Edges.due(Edges.ARGUMENT, () -> Edges.listed(3).power(0, 0, 5));
            Edges.due(Edges.ARGUMENT, () -> Edges.listed(3).power(0, 0, -1));
        });
        Edges.sentence("Promise 20", "Returns the MEMBER with whom it TURNS; NONE.", () -> {
            Edges.due(2, () -> Edges.listed(3, 7).turner(0, 0));
            Edges.due(0, () -> Edges.listed(3, 7).turner(0, 5));
            Edges.due(-1, () -> Edges.listed(3, 7).turner(1, 5));
            Edges.due(Edges.ARGUMENT, () -> Edges.listed(3, 7).turner(0, -1));
        });
        Edges.sentence("Promise 25", "Returns of all QUOTAS from 1 to all WEIGHTS together", () -> {
            Edges.due(1, () -> Edges.council(1).best(0));
            Edges.due(1, () -> Edges.council(99).best(0));
            Edges.due(2, () -> Edges.council(1, 1).best(0));
            Edges.due(1, () -> Edges.council(1, 0).best(0));
            Edges.due(1, () -> Edges.council(1, 0).best(1));
            Edges.due(-1, () -> Edges.council(0, 0).best(1));
        });
        Edges.sentence("Promise 25", "by which (with HEADS 0) no two STRANGERS would WIN", () -> {
            Edges.due(298, () -> Edges.council(99, 99, 99, 99, 99, 99).best(3));
            Edges.due(4, () -> Edges.council(1, 1, 1, 1, 1, 1).best(5));
            Edges.due(41, () -> Edges.council(99, 20, 20).best(0));
            // By 2, where 1 and 4 could win alone, the member 0 would have most.
            Edges.due(3, () -> Edges.council(2, 0, 2).best(0));
        });
        Edges.sentence("Promise 25", "that with which POWER of it by ORDERS is greatest;", () -> {
            Edges.due(6, () -> Edges.council(4, 3, 2).best(0));
            Edges.due(5, () -> Edges.council(4, 3, 2).best(2));
            Edges.due(120, () -> Edges.council(99, 20, 20).best(1));
            Edges.due(2, () -> Edges.council(0, 1, 1).best(0));
            Edges.due(2, () -> Edges.council(2, 0, 1).best(1));
        });
        Edges.sentence("Promise 25", "NONE without one.", () -> {
            for (int members = 1; members <= 6; members++) {
                int many = members;
                Edges.due(-1, () -> Edges.council(new int[many]).best(many - 1));
            }
        });
        Edges.sentence("Promise 26", "Returns of LEAST GROUPS that with the greatest HOLD;", () -> {
            holds();
            holdOfOne();
            Edges.due(3, () -> Edges.listed(3, 3, 5, 6).held(0));
            // A larger group that wins, too, is no least one.
            Edges.due(1, () -> Edges.listed(3, 1, 3).held(0));
        });
        Edges.sentence("Promise 26", "NONE without one, or if in each two QUARREL.", () -> {
            holdOfQuarrels();
            Edges.due(-1, () -> new Seatpower().held(0));
            Edges.due(-1, () -> Edges.listed(6).held(3));
        });
    }

    private static void askingOfWeights() {
        String part = "Promise 23";
        Edges.sentence(part, "Returns QUOTA, \":\", WEIGHTS with a blank between two;", () -> {
            Edges.due("1:1", () -> Edges.listed(1, 1).weights(0));
            Edges.due("3:2 1 1", () -> Edges.listed(3, 3, 5).weights(0));
            Edges.due("1:0 0 0", () -> Edges.listed(3).weights(0));
            Edges.due("5:3 2 2 1 1", () -> {
                Seatpower x = Edges.council(30, 20, 20, 10, 10);
                x.quota(0, 46, 0);
                return x.weights(0);
            });
        });
        Edges.sentence(part, "\"!\" if there are none;", () -> {
            Edges.due("!", () -> Edges.listed(4, 3, 12).weights(0));
            Edges.due("!", () -> Edges.listed(5, 3, 12).weights(0));
            Edges.due("!", () -> Edges.listed(5, 3, 28).weights(0));
        });
        Edges.sentence(part, "\"?\" with more than 5 MEMBERS.", () -> {
            Edges.due("?", () -> Edges.listed(6).weights(0));
            Edges.due("?", () -> Edges.listed(6, 63).weights(0));
            Edges.due("?", () -> Edges.listed(6, 3, 12).weights(0));
            Edges.due("1:0 0 0 0 0", () -> Edges.listed(5).weights(0));
            Edges.due(Edges.INDEX, () -> Edges.listed(6).weights(4));
        });
        Edges.sentence("Promise 24", "Returns a and b with a blank between, \"|\", c and d likewise;", () -> {
            Edges.due("3 12|5 10", () -> Edges.listed(4, 3, 12).trade(0));
            Edges.due("3 28|5 26", () -> Edges.listed(5, 3, 28).trade(0));
            Edges.due("7 56|9 54", () -> Edges.listed(6, 7, 56).trade(0));
        });
        Edges.sentence("Promise 24", "\"-\" without a TRADE.", () -> {
            Edges.due("-", () -> Edges.listed(3, 3, 5, 6).trade(0));
            Edges.due("-", () -> new Seatpower().trade(0));
            Edges.due("-", () -> Edges.listed(6, 1).trade(0));
        });
    }
}
