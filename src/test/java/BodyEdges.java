import java.util.ArrayList;
import java.util.List;
import java.util.Set;
import java.util.TreeSet;
import java.util.function.IntPredicate;

/** Part 1 of the document, and the calls that tell of members and bodies. */
final class BodyEdges {
    /** How many bodies there are of 0 to 4 members. */
    private static final int[] BODIES = {1, 2, 5, 19, 167};
    private static final String MANY_WIN = "Returns how many GROUPS WIN in it";

    private BodyEdges() {
    }

    static void run() {
        membersOfPartOne();
        bodiesOfPartOne();
        tellingOfMembers();
        tellingOfBodies();
        tellingOfOtherBodies();
    }

    private static void membersOfPartOne() {
        Edges.sentence("1", "There are 1 to 6 MEMBERS (3 at first), numbered from 0,", BodyEdges::oneToSixMembers);
        Edges.sentence("1", "each with a WEIGHT (0 to 99; 1 at first).", BodyEdges::weightsOfMembers);
        Edges.sentence("1", "Of two of them one tells how they LIKE each other (0 to 9; 5 at first),",
                BodyEdges::likesOfMembers);
        Edges.sentence("1", "and whether they QUARREL.", BodyEdges::quarrelsOfMembers);
    }

    private static void bodiesOfPartOne() {
        Edges.sentence("1", "BODIES 0 to 3 tell of each GROUP whether it WINS;", BodyEdges::bodiesZeroToThree);
        Edges.sentence("1", "the empty one never does;", BodyEdges::emptyGroupNeverWins);
        Edges.sentence("1", "who has a GROUP in it that WINS, WINS, too.", BodyEdges::largerGroupsWin);
        Edges.sentence("1", "At first nobody WINS.", () -> {
            for (int members = 1; members <= 6; members++) {
                Seatpower x = Edges.listed(members);
                for (int body = 0; body < 4; body++) {
                    int asked = body;
                    Edges.due("[]", () -> Edges.winners(x, asked).toString());
                }
            }
        });
        Edges.sentence("1", "STRANGERS: two GROUPS without a common MEMBER.", BodyEdges::strangers);
        Edges.sentence("1", "By a QUOTA: a GROUP WINS whose WEIGHTS together are the QUOTA or more",
                BodyEdges::weightsOfTheQuotaOrMore);
        Edges.sentence("1", "(and that has as many MEMBERS as HEADS or more).", BodyEdges::asManyAsHeads);
        Edges.sentence("1", "AND, OR of two BODIES: who WINS in both, in one of them.", BodyEdges::andOr);
        Edges.sentence("1", "DUAL: a GROUP WINS, if all others do not.", BodyEdges::duals);
        Edges.sentence("1", "BLOC of a GROUP: all of it go as its smallest MEMBER goes, so a GROUP WINS, if it, without"
                + " those of the BLOC, but with all of them if it has the smallest one, WINS.", BodyEdges::blocs);
        Edges.sentence("1", "WITHIN: of a BODY a MEMBER is replaced by another BODY: a GROUP WINS, if it, without that"
                + " MEMBER, but with it if the GROUP WINS in the other BODY, WINS.", BodyEdges::bodiesWithin);
        Edges.sentence("1", "VETO of a MEMBER: who WINS has to have it, too.", BodyEdges::vetoes);
        Edges.sentence("1", "TABLE of a BODY: the sum of 2^g for each GROUP g that WINS.", BodyEdges::tables);
        Edges.sentence("1", "BODIES of so many MEMBERS (at most 4) are numbered from 0 on, by rising TABLES.",
                BodyEdges::numbers);
    }

    private static void oneToSixMembers() {
        Edges.due(3, () -> new Seatpower().house(0));
        for (int members = 1; members <= 6; members++) {
            int many = members;
            Seatpower x = new Seatpower();
            Edges.due(3, () -> x.members(many));
            Edges.due(many, () -> x.house(0));
            Edges.due(1, () -> x.weight(0, 1));
            Edges.due(1, () -> x.weight(many - 1, 1));
            Edges.due(Edges.INDEX, () -> x.weight(many, 1));
            Edges.due(Edges.INDEX, () -> x.weight(-1, 1));
            Edges.due(many, () -> x.members(many));
        }
        Edges.due(Edges.ARGUMENT, () -> new Seatpower().members(0));
        Edges.due(Edges.ARGUMENT, () -> new Seatpower().members(7));
    }

    private static void weightsOfMembers() {
        for (int members = 1; members <= 6; members++) {
            Seatpower x = Edges.listed(members);
            for (int member = 0; member < members; member++) {
                int one = member;
                Edges.due(1, () -> x.weight(one, 99));
                Edges.due(99, () -> x.weight(one, 0));
                Edges.due(0, () -> x.weight(one, 10 + one));
                Edges.due(Edges.ARGUMENT, () -> x.weight(one, 100));
                Edges.due(Edges.ARGUMENT, () -> x.weight(one, -1));
            }
            for (int member = 0; member < members; member++) {
                int one = member;
                Edges.due(10 + one, () -> x.weight(one, 0));
            }
        }
    }

    private static void likesOfMembers() {
        for (int members = 2; members <= 6; members++) {
            Seatpower x = Edges.listed(members);
            for (int a = 0; a < members; a++) {
                for (int b = 0; b < a; b++) {
                    int one = a;
                    int other = b;
                    Edges.due(5, () -> x.like(one, other, 0));
                    Edges.due(0, () -> x.like(other, one, 9));
                    Edges.due(9, () -> x.like(other, one, (3 * one + other) % 10));
                    Edges.due(Edges.ARGUMENT, () -> x.like(one, other, 10));
                    Edges.due(Edges.ARGUMENT, () -> x.like(one, other, -1));
                }
            }
            for (int a = 0; a < members; a++) {
                for (int b = 0; b < a; b++) {
                    int one = a;
                    int other = b;
                    Edges.due((3 * one + other) % 10, () -> x.like(one, other, 5));
                }
            }
        }
        Edges.due(Edges.ARGUMENT, () -> new Seatpower().like(1, 1, 5));
        Edges.due(Edges.INDEX, () -> Edges.listed(1).like(0, 1, 5));
    }

    private static void quarrelsOfMembers() {
        for (int members = 2; members <= 6; members++) {
            Seatpower x = Edges.listed(members);
            for (int a = 0; a < members; a++) {
                for (int b = 0; b < a; b++) {
                    int one = a;
                    int other = b;
                    Edges.due(0, () -> x.quarrel(one, other, true));
                    Edges.due(1, () -> x.quarrel(other, one, false));
                    Edges.due(0, () -> x.quarrel(other, one, (one + other) % 2 == 0));
                }
            }
            for (int a = 0; a < members; a++) {
                for (int b = 0; b < a; b++) {
                    int one = a;
                    int other = b;
                    Edges.due((one + other) % 2 == 0 ? 1 : 0, () -> x.quarrel(one, other, true));
                }
            }
        }
        Edges.due(Edges.ARGUMENT, () -> new Seatpower().quarrel(2, 2, true));
    }

    private static void bodiesZeroToThree() {
        Seatpower x = new Seatpower();
        for (int body = 0; body < 4; body++) {
            int one = body;
            Edges.due(0, () -> x.ofBody(one, 0));
            x.list(one, one + 1);
        }
        int[] many = {4, 4, 2, 4};
        for (int body = 0; body < 4; body++) {
            int one = body;
            Edges.due("" + (one + 1), () -> x.least(one, false));
            Edges.due(many[one], () -> Edges.winners(x, one).size());
        }
        Edges.due(Edges.INDEX, () -> x.wins(-1, 1));
        Edges.due(Edges.INDEX, () -> x.wins(4, 1));
    }

    /** Bodies told in each way, as near to an empty group that wins as they can be. */
    private static List<Seatpower> toldInAllWays() {
        List<Seatpower> told = new ArrayList<>();
        Seatpower weightless = Edges.council(0, 0, 1);
        weightless.quota(0, 1, 0);
        told.add(weightless);
        Seatpower six = Edges.council(99, 50, 49, 1, 0, 0);
        six.quota(0, 100, 2);
        told.add(six);
        told.add(Edges.listed(6, 1, 2, 4, 8, 16, 32));
        told.add(Edges.listed(1, 1));
        told.add(Edges.listed(5, 3, 12, 16));
        told.add(Edges.made(x -> x.list(1, 1), x -> x.list(2, 6), x -> x.join(1, 2, 0, true)));
        told.add(Edges.made(x -> x.list(1, 1), x -> x.list(2, 6), x -> x.join(1, 2, 0, false)));
        told.add(Edges.made(x -> x.list(1, 7), x -> x.dual(1, 0)));
        told.add(Edges.made(x -> x.list(1, 1), x -> x.list(1, 2), x -> x.list(1, 4), x -> x.dual(1, 0)));
        told.add(Edges.made(x -> x.list(0, 1), x -> x.list(0, 2), x -> x.list(0, 4), x -> x.bloc(0, 7, 0)));
        told.add(Edges.made(x -> x.list(1, 4), x -> x.bloc(1, 6, 0)));
        told.add(Edges.made(x -> x.list(0, 1), x -> x.list(1, 2), x -> x.list(1, 4), x -> x.within(0, 0, 1, 0)));
        told.add(Edges.made(x -> x.list(0, 1), x -> x.within(0, 0, 1, 0)));
        told.add(Edges.made(x -> x.list(0, 1), x -> x.list(0, 2), x -> x.veto(0, 2)));
        told.add(Edges.made(x -> x.veto(0, 2)));
        told.add(Edges.made(x -> x.members(5), x -> x.list(0, 6), x -> x.none(0)));
        return told;
    }

    private static void emptyGroupNeverWins() {
        for (Seatpower x : toldInAllWays()) {
            Edges.due(false, () -> x.wins(0, 0));
        }
        for (int members = 1; members <= 4; members++) {
            Seatpower x = Edges.listed(members);
            for (int number = 0; number < BODIES[members]; number++) {
                x.make(3, number);
                Edges.due(false, () -> x.wins(3, 0));
            }
        }
        Edges.due(Edges.ARGUMENT, () -> new Seatpower().list(0, 0));
    }

    private static void largerGroupsWin() {
        for (Seatpower x : toldInAllWays()) {
            risesIn(x);
        }
        for (int members = 1; members <= 4; members++) {
            for (int number = 0; number < BODIES[members]; number++) {
                Seatpower x = Edges.listed(members);
                x.make(0, number);
                risesIn(x);
            }
        }
        Edges.due(true, () -> Edges.listed(6, 5).wins(0, 63));
        Edges.due(true, () -> Edges.listed(6, 5).wins(0, 5 + 16));
        Edges.due(false, () -> Edges.listed(6, 5).wins(0, 63 - 4));
    }

    private static void risesIn(Seatpower x) {
        Set<Integer> winners = Edges.winners(x, 0);
        Set<Integer> larger = new TreeSet<>(winners);
        int members = x.house(0);
        for (int group : winners) {
            for (int member = 0; member < members; member++) {
                larger.add(group | 1 << member);
            }
        }
        Edges.due(larger, () -> winners);
    }

    private static void strangers() {
        // All others need not be among the strangers: the member 2 is in neither of 1 and 2.
        Edges.due(0, () -> Edges.listed(3, 1, 2).ofBody(0, 2));
        Edges.due(0, () -> Edges.listed(4, 3, 12).ofBody(0, 2));
        Edges.due(0, () -> Edges.listed(6, 1, 32).ofBody(0, 2));
        Edges.due(1, () -> Edges.listed(3, 3, 5, 6).ofBody(0, 2));
        Edges.due(1, () -> Edges.listed(2, 3).ofBody(0, 2));
        Edges.due(-8, () -> Edges.council(2, 1, 1).quota(0, 2, 0));
        Edges.due(4, () -> Edges.council(5, 0, 0).quota(0, 5, 0));
        Edges.due(-8, () -> Edges.council(5, 0, 5).quota(0, 5, 0));
    }

    private static void weightsOfTheQuotaOrMore() {
        Seatpower x = Edges.council(4, 3, 2);
        int[] many = {4, 3, 2, 1, 1, 0, 0};
        for (int quota = 5; quota <= 11; quota++) {
            int one = quota;
            Edges.due(many[one - 5], () -> x.quota(0, one, 0));
        }
        Edges.due("[3, 5, 6, 7]", () -> {
            x.quota(0, 5, 0);
            return Edges.winners(x, 0).toString();
        });
        Edges.due("[3, 5, 7]", () -> {
            x.quota(0, 6, 0);
            return Edges.winners(x, 0).toString();
        });
        Edges.due(0, () -> x.quota(0, 999, 0));
        Seatpower heavy = Edges.council(99, 99, 99, 99, 99, 99);
        Edges.due(1, () -> heavy.quota(1, 594, 0));
        Edges.due(0, () -> heavy.quota(1, 595, 0));
        Edges.due(7, () -> heavy.quota(1, 495, 0));
        Edges.due(1, () -> heavy.quota(1, 496, 0));
        Edges.due(1, () -> Edges.council(1).quota(0, 1, 0));
        Edges.due(0, () -> Edges.council(0, 0).quota(0, 1, 0));
        Edges.due(Edges.ARGUMENT, () -> x.quota(0, 0, 0));
        Edges.due(Edges.ARGUMENT, () -> x.quota(0, 1000, 0));
    }

    private static void asManyAsHeads() {
        Seatpower x = Edges.council(9, 1, 1, 1, 1, 1);
        int[] many = {32, 32, 31, 26, 16, 6, 1};
        for (int heads = 0; heads <= 6; heads++) {
            int one = heads;
            Edges.due(many[one], () -> x.quota(0, 9, one));
        }
        Edges.due(22, () -> x.quota(0, 1, 4));
        Edges.due(-8, () -> x.quota(0, 1, 3));
        Edges.due(0, () -> Edges.council(9, 9).quota(0, 1, 3));
        Edges.due(1, () -> Edges.council(9, 9).quota(0, 1, 2));
        Edges.due(1, () -> Edges.council(9).quota(0, 9, 1));
        Edges.due(1, () -> Edges.council(9).quota(0, 9, 0));
        Edges.due(0, () -> Edges.council(9).quota(0, 9, 2));
        Edges.due(Edges.ARGUMENT, () -> x.quota(0, 1, -1));
        Edges.due(Edges.ARGUMENT, () -> x.quota(0, 1, 7));
    }

    private static void andOr() {
        Seatpower x = Edges.listed(3, 3, 4);
        x.list(1, 5);
        x.list(1, 2);
        Set<Integer> one = Edges.winners(x, 0);
        Set<Integer> other = Edges.winners(x, 1);
        Set<Integer> either = new TreeSet<>(one);
        either.addAll(other);
        Set<Integer> both = new TreeSet<>(one);
        both.retainAll(other);
        x.join(0, 1, 2, true);
        x.join(0, 1, 3, false);
        Edges.due(either, () -> Edges.winners(x, 2));
        Edges.due(both, () -> Edges.winners(x, 3));
        Seatpower empty = Edges.listed(6, 33);
        Edges.due(16, () -> empty.join(0, 1, 2, true));
        Edges.due(16, () -> empty.join(1, 0, 2, true));
        Edges.due(0, () -> empty.join(0, 1, 2, false));
        Edges.due(0, () -> empty.join(1, 3, 3, true));
        Edges.due(16, () -> empty.join(0, 0, 0, false));
    }

    /** A body told by another one: which group of the other one a group goes as. */
    private static Set<Integer> due(Seatpower x, IntPredicate wins) {
        Set<Integer> due = new TreeSet<>();
        int groups = 1 << x.house(0);
        for (int group = 0; group < groups; group++) {
            if (wins.test(group)) {
                due.add(group);
            }
        }
        return due;
    }

    private static void duals() {
        for (int number = 1; number < BODIES[4]; number++) {
            Seatpower x = Edges.listed(4);
            x.make(0, number);
            Set<Integer> winners = Edges.winners(x, 0);
            x.dual(0, 1);
            Edges.due(due(x, group -> !winners.contains(15 - group)), () -> Edges.winners(x, 1));
            x.dual(1, 1);
            Edges.due(true, () -> x.same(0, 1));
        }
        Seatpower six = Edges.listed(6, 63);
        Edges.due(63, () -> six.dual(0, 0));
        Edges.due(1, () -> six.dual(0, 0));
        Edges.due(1, () -> Edges.listed(1, 1).dual(0, 3));
    }

    private static void blocs() {
        for (int number = 0; number < BODIES[4]; number += 3) {
            for (int bloc = 1; bloc <= 15; bloc++) {
                int group = bloc;
                Seatpower x = Edges.listed(4);
                x.make(0, number);
                Set<Integer> winners = Edges.winners(x, 0);
                x.bloc(0, group, 1);
                int smallest = group & -group;
                Edges.due(due(x, g -> winners.contains(g & ~group | ((g & smallest) != 0 ? group : 0))),
                        () -> Edges.winners(x, 1));
            }
        }
        // Of one alone nothing changes; of all of them the member 0 is a dictator, if anybody wins at all.
        Edges.due("3 5 6", () -> Edges.made(x -> x.quota(0, 2, 0), x -> x.bloc(0, 2, 1)).least(1, false));
        Edges.due("1", () -> Edges.made(x -> x.list(0, 7), x -> x.bloc(0, 7, 1)).least(1, false));
        Edges.due("", () -> Edges.made(x -> x.bloc(0, 7, 1)).least(1, false));
        Edges.due("2", () -> Edges.made(x -> x.list(0, 4), x -> x.bloc(0, 6, 1)).least(1, false));
        Edges.due("16", () -> Edges.made(x -> x.members(6), x -> x.list(0, 32), x -> x.bloc(0, 48, 0))
                .least(0, false));
    }

    private static void bodiesWithin() {
        for (int number = 0; number < BODIES[4]; number += 11) {
            for (int inner = 0; inner < BODIES[4]; inner += 7) {
                Seatpower x = Edges.listed(4);
                x.make(0, number);
                x.make(1, inner);
                int member = (number + inner) % 4;
                Set<Integer> winners = Edges.winners(x, 0);
                Set<Integer> insiders = Edges.winners(x, 1);
                x.within(0, member, 1, 2);
                Edges.due(due(x, g -> winners.contains(g & ~(1 << member)
                        | (insiders.contains(g) ? 1 << member : 0))), () -> Edges.winners(x, 2));
            }
        }
        // By nobody: the member is of no use any more. By itself: nothing changes. By all: it needs all others.
        Seatpower x = Edges.listed(3, 3, 4);
        Edges.due("4", () -> Edges.made(y -> y.list(0, 3), y -> y.list(0, 4), y -> y.within(0, 1, 3, 3))
                .least(3, false));
        x.list(1, 2);
        Edges.due("3 4", () -> {
            x.within(0, 1, 1, 2);
            return x.least(2, false);
        });
        x.none(1);
        x.list(1, 7);
        Edges.due("4", () -> {
            x.within(0, 1, 1, 2);
            return x.least(2, false);
        });
    }

    private static void vetoes() {
        Seatpower x = Edges.listed(3, 1, 2, 4);
        Edges.due("2", () -> {
            x.veto(0, 1);
            return x.least(0, false);
        });
        Edges.due("2", () -> {
            x.veto(0, 1);
            return x.least(0, false);
        });
        Edges.due("6", () -> {
            x.veto(0, 2);
            return x.least(0, false);
        });
        Edges.due("7", () -> {
            x.veto(0, 0);
            return x.least(0, false);
        });
        Edges.due(0, () -> x.veto(1, 2));
        Edges.due("33 34", () -> {
            Seatpower y = Edges.listed(6, 1, 34);
            y.veto(0, 5);
            return y.least(0, false);
        });
    }

    /** The sum of 2^g, by which bodies are in a row: of two of them that with the greatest other group is later. */
    private static void tables() {
        Seatpower x = Edges.listed(3, 3, 5, 6);
        Edges.due((1 << 3) + (1 << 5) + (1 << 6) + (1 << 7), () -> table(x));
        Edges.due(0, () -> table(Edges.listed(4)));
        Edges.due((1 << 16) - 2, () -> table(Edges.listed(4, 1, 2, 4, 8)));
        // The dictator 2 has the table 240, a body of 1 and 6 has 234, so it comes later.
        int dictator = Edges.listed(3, 4).ofBody(0, 8);
        Edges.due(true, () -> Edges.listed(3, 1, 6).ofBody(0, 8) < dictator);
        Edges.due(240, () -> table(Edges.listed(3, 4)));
        Edges.due(234, () -> table(Edges.listed(3, 1, 6)));
    }

    private static int table(Seatpower x) {
        int table = 0;
        for (int group : Edges.winners(x, 0)) {
            table += 1 << group;
        }
        return table;
    }

    private static void numbers() {
        for (int members = 1; members <= 4; members++) {
            int many = members;
            int number = 0;
            int tables = 1 << (1 << members) - 1;
            for (int half = 0; half < tables; half++) {
                int table = 2 * half;
                if (isBody(table, many)) {
                    int next = number;
                    Seatpower x = Edges.listed(many);
                    Edges.due(Integer.bitCount(table), () -> x.make(2, next));
                    Edges.due(next, () -> x.ofBody(2, 8));
                    Edges.due(Integer.bitCount(table), () -> x.make(0, next));
                    Edges.due(table, () -> table(x));
                    number++;
                }
            }
            int last = number;
            Edges.due(BODIES[many], () -> last);
            Edges.due(-9, () -> Edges.listed(many).make(0, last));
        }
        Edges.due(-9, () -> Edges.listed(5).make(0, 0));
        Edges.due(-1, () -> Edges.listed(5).ofBody(0, 8));
    }

    private static boolean isBody(int table, int members) {
        for (int group = 0; group < 1 << members; group++) {
            for (int member = 0; member < members; member++) {
                if ((table >> group & 1) > (table >> (group | 1 << member) & 1)) {
                    return false;
                }
            }
        }
        return true;
    }

    private static void tellingOfMembers() {
        String part = "Promise 2";
        Edges.sentence(part, "So many MEMBERS;", BodyEdges::oneToSixMembers);
        Edges.sentence(part, "WEIGHTS are 1, all LIKE each other by 5, none QUARREL, nobody WINS in any BODY.",
                BodyEdges::membersStartsAnew);
        Edges.sentence(part, "Returns how many there were.", () -> {
            Seatpower x = new Seatpower();
            int before = 3;
            for (int many : new int[] {3, 6, 6, 1, 2, 5, 4, 1}) {
                int due = before;
                Edges.due(due, () -> x.members(many));
                before = many;
            }
        });
        Edges.sentence("Promise 3", "Tells a WEIGHT (BODIES stay as they are).", BodyEdges::weightLeavesBodies);
        Edges.sentence("Promise 3", "Returns that before.", BodyEdges::weightsOfMembers);
        Edges.sentence("Promise 4", "Tells LIKE.", () -> {
            Seatpower x = Edges.listed(3, 3, 5, 6);
            x.like(2, 0, 6);
            Edges.due(5, () -> x.held(0));
            x.like(1, 2, 9);
            Edges.due(6, () -> x.held(0));
            x.like(1, 2, 0);
            x.like(0, 2, 0);
            x.like(0, 1, 0);
            Edges.due(3, () -> x.held(0));
        });
        Edges.sentence("Promise 4", "Returns that before.", BodyEdges::likesOfMembers);
        Edges.sentence("Promise 5", "Tells a QUARREL, or no more.", () -> {
            Seatpower x = Edges.listed(2, 3);
            Edges.due("1 3", () -> x.swings(0, 0, true) + " " + x.held(0));
            x.quarrel(1, 0, true);
            Edges.due("0 -1", () -> x.swings(0, 0, true) + " " + x.held(0));
            x.quarrel(1, 0, true);
            x.quarrel(0, 1, false);
            Edges.due("1 3", () -> x.swings(0, 0, true) + " " + x.held(0));
            x.quarrel(0, 1, false);
            Edges.due(0, () -> x.house(2));
        });
        Edges.sentence("Promise 5", "Returns 1 if they did, otherwise 0.", BodyEdges::quarrelsOfMembers);
    }

    private static void membersStartsAnew() {
        for (int members = 1; members <= 6; members++) {
            int many = members;
            String due = Edges.held(Edges.made(x -> x.members(many)));
            Edges.Step[] full = {x -> x.members(6), x -> x.weight(0, 7), x -> x.weight(5, 0), x -> x.like(0, 1, 2),
                x -> x.like(5, 4, 9), x -> x.quarrel(0, 1, true), x -> x.quarrel(5, 4, true), x -> x.list(0, 1),
                x -> x.list(1, 32), x -> x.list(2, 6), x -> x.list(3, 63)};
            Edges.due(Edges.withoutPast(due), () -> Edges.withoutPast(Edges.held(Edges.made(Edges.both(full,
                    y -> y.members(many))))));
            // Through fewer members, too: what those had that are back now is not there any more.
            Edges.due(Edges.withoutPast(due), () -> Edges.withoutPast(Edges.held(Edges.made(Edges.both(full, y -> y.members(2),
                    y -> y.members(many))))));
        }
        Edges.due("5 7 0", () -> {
            Seatpower x = Edges.made(y -> y.bar(5), y -> y.votes(0, 7), y -> y.members(4));
            return x.house(8) + " " + x.house(4) + " " + x.house(2);
        });
    }

    private static void weightLeavesBodies() {
        Seatpower x = Edges.council(4, 3, 2);
        x.quota(0, 5, 0);
        x.quota(3, 9, 0);
        x.weight(0, 0);
        x.weight(2, 99);
        Edges.due("3 5 6", () -> x.least(0, false));
        Edges.due("7", () -> x.least(3, false));
        Edges.due(102, () -> x.house(1));
        Edges.due(4, () -> x.quota(0, 99, 0));
        Edges.due("4", () -> x.least(0, false));
    }

    private static void tellingOfBodies() {
        Edges.sentence("Promise 6", "A BODY is told by a QUOTA and HEADS. It is LET.", () -> {
            Seatpower x = Edges.council(4, 3, 2);
            x.list(2, 1);
            Edges.due(4, () -> x.quota(2, 5, 2));
            Edges.due("3 5 6", () -> x.least(2, false));
            Edges.due(1, () -> x.quota(2, 9, 0));
            Edges.due("7", () -> x.least(2, false));
            Edges.due(-8, () -> x.quota(2, 4, 0));
            Edges.due("7", () -> x.least(2, false));
            Edges.due("", () -> x.least(1, false));
        });
        Edges.sentence("Promise 6", "Returns how many GROUPS WIN; -8, if two STRANGERS would.", () -> {
            // Just as many as half of all weights are too few, if others have them, too.
            Edges.due(-8, () -> Edges.council(2, 2).quota(0, 2, 0));
            Edges.due(1, () -> Edges.council(2, 2).quota(0, 3, 0));
            Edges.due(-8, () -> Edges.council(3, 2, 1).quota(0, 3, 0));
            Edges.due(4, () -> Edges.council(3, 2, 2).quota(0, 4, 0));
            Edges.due(-8, () -> Edges.council(1, 1, 1).quota(0, 1, 1));
            Edges.due(4, () -> Edges.council(1, 1, 1).quota(0, 1, 2));
            Edges.due(4, () -> Edges.council(9, 0, 0).quota(0, 1, 0));
            Edges.due(0, () -> Edges.council(0, 0, 0).quota(0, 1, 0));
            Edges.due(-8, () -> Edges.council(0, 0, 0, 0, 1, 1).quota(0, 1, 3));
            Edges.due(22, () -> Edges.council(1, 1, 1, 1, 1, 1).quota(0, 4, 0));
        });
        Edges.sentence("Promise 7", "Nobody WINS in a BODY.", () -> {
            Seatpower x = Edges.listed(3, 1);
            x.list(1, 2);
            x.none(0);
            Edges.due("[]", () -> Edges.winners(x, 0).toString());
            Edges.due("2", () -> x.least(1, false));
        });
        Edges.sentence("Promise 7", "Returns how many GROUPS did.", () -> {
            Seatpower x = Edges.listed(6, 1, 2, 4, 8, 16, 32);
            Edges.due(63, () -> x.none(0));
            Edges.due(0, () -> x.none(0));
            Edges.due(0, () -> x.none(3));
        });
        Edges.sentence("Promise 8", "A GROUP WINS from now on, and all that have it in them.", BodyEdges::lists);
        Edges.sentence("Promise 8", "Returns how many GROUPS WIN then.", () -> {
            Edges.due(1, () -> new Seatpower().list(0, 7));
            Edges.due(4, () -> new Seatpower().list(0, 4));
            Edges.due(32, () -> Edges.listed(6).list(3, 32));
            Edges.due(63, () -> Edges.listed(6, 1, 2, 4, 8, 16).list(0, 32));
            Edges.due(5, () -> Edges.listed(3, 1).list(0, 6));
            Edges.due(4, () -> Edges.listed(3, 1).list(0, 1));
            Edges.due(4, () -> Edges.listed(3, 1).list(0, 7));
            Edges.due(1, () -> Edges.listed(1).list(0, 1));
        });
        tellingOfJoins();
    }

    private static void lists() {
        for (int members = 1; members <= 6; members++) {
            for (int group = 1; group < 1 << members; group++) {
                int one = group;
                Seatpower x = Edges.listed(members, one);
                Edges.due(due(x, g -> (g & one) == one), () -> Edges.winners(x, 0));
            }
        }
        // What won ahead wins still, strangers may win, too, and a group that wins may be told again.
        Edges.due("1 2", () -> Edges.listed(3, 7, 3, 1, 2, 2).least(0, false));
        Edges.due(Edges.ARGUMENT, () -> Edges.listed(3).list(0, 0));
        Edges.due(Edges.ARGUMENT, () -> Edges.listed(3).list(0, 8));
        Edges.due(Edges.ARGUMENT, () -> Edges.listed(6).list(0, 64));
        Edges.due(Edges.ARGUMENT, () -> Edges.listed(6).list(0, -63));
    }

    private static void tellingOfJoins() {
        Edges.sentence("Promise 9", "Joins two BODIES.", () -> {
            // The body that it is may be one of both; the others stay.
            Seatpower x = Edges.listed(3, 3, 4);
            x.list(1, 5);
            x.join(0, 1, 0, false);
            Edges.due("5", () -> x.least(0, false));
            x.list(2, 2);
            x.join(0, 2, 2, true);
            Edges.due("5|5|2 5", () -> x.least(0, false) + "|" + x.least(1, false) + "|" + x.least(2, false));
        });
        Edges.sentence("Promise 9", MANY_WIN + ".", () -> {
            Seatpower x = Edges.listed(3, 3, 4);
            x.list(1, 5);
            x.list(1, 2);
            Edges.due(6, () -> x.join(0, 1, 2, true));
            Edges.due(4, () -> x.join(1, 0, 2, false));
            Edges.due(0, () -> x.join(1, 3, 2, false));
            Edges.due(5, () -> x.join(1, 3, 2, true));
        });
        Edges.sentence("Promise 10", "A BODY is the DUAL of one. It is LET.", () -> {
            Seatpower x = Edges.listed(3, 7);
            x.dual(0, 2);
            Edges.due("7|1 2 4", () -> x.least(0, false) + "|" + x.least(2, false));
            x.dual(2, 2);
            Edges.due("7", () -> x.least(2, false));
            x.dual(3, 2);
            Edges.due("7", () -> x.least(2, false));
        });
        Edges.sentence("Promise 10", MANY_WIN + "; -8, if nobody WINS in the one.", () -> {
            Edges.due(7, () -> Edges.listed(3, 7).dual(0, 1));
            Edges.due(4, () -> Edges.listed(3, 1).dual(0, 0));
            Edges.due(-8, () -> Edges.listed(3, 1).dual(1, 0));
            Edges.due(-8, () -> Edges.listed(3, 1).dual(1, 1));
            Edges.due(-8, () -> Edges.listed(6).dual(0, 3));
        });
    }

    private static void tellingOfOtherBodies() {
        Edges.sentence("Promise 11", "A BODY is one with a BLOC.", () -> {
            Seatpower x = Edges.listed(3, 3, 5, 6);
            x.bloc(0, 6, 3);
            Edges.due("3 5 6|2", () -> x.least(0, false) + "|" + x.least(3, false));
            x.bloc(0, 5, 0);
            Edges.due("1", () -> x.least(0, false));
        });
        Edges.sentence("Promise 11", MANY_WIN + ".", () -> {
            Edges.due(4, () -> Edges.listed(3, 3, 5, 6).bloc(0, 6, 1));
            Edges.due(2, () -> Edges.listed(3, 7).bloc(0, 6, 0));
            Edges.due(0, () -> Edges.listed(3, 7).bloc(1, 6, 0));
            Edges.due(32, () -> Edges.listed(6, 63).bloc(0, 63, 1));
        });
        Edges.sentence("Promise 12", "A BODY is one WITHIN which a MEMBER is replaced by another BODY.", () -> {
            Seatpower x = Edges.listed(4, 3);
            x.list(1, 4);
            x.list(1, 8);
            x.within(0, 1, 1, 2);
            Edges.due("3|4 8|5 9", () -> x.least(0, false) + "|" + x.least(1, false) + "|" + x.least(2, false));
            x.within(0, 1, 1, 1);
            Edges.due("5 9", () -> x.least(1, false));
            x.within(0, 0, 2, 0);
            // The inner one has the member 0 itself in it, which stays who it is.
            Edges.due("7 11", () -> x.least(0, false));
            x.within(1, 3, 1, 1);
            Edges.due("5 9", () -> x.least(1, false));
        });
        Edges.sentence("Promise 12", MANY_WIN + ".", () -> {
            Seatpower x = Edges.listed(4, 3);
            x.list(1, 4);
            x.list(1, 8);
            Edges.due(6, () -> x.within(0, 1, 1, 2));
            Edges.due(0, () -> x.within(0, 1, 3, 2));
            Edges.due(0, () -> x.within(3, 1, 0, 2));
            Edges.due(4, () -> x.within(0, 1, 0, 2));
        });
        Edges.sentence("Promise 13", "A MEMBER gets a VETO.", () -> {
            Seatpower x = Edges.listed(3, 3, 5, 6);
            x.list(1, 1);
            x.veto(0, 2);
            Edges.due("5 6|1", () -> x.least(0, false) + "|" + x.least(1, false));
            Edges.due(4, () -> x.ofBody(0, 5));
        });
        Edges.sentence("Promise 13", "Returns how many GROUPS WIN then.", () -> {
            Edges.due(3, () -> Edges.listed(3, 3, 5, 6).veto(0, 2));
            Edges.due(4, () -> Edges.listed(3, 1).veto(0, 0));
            Edges.due(2, () -> Edges.listed(3, 1).veto(0, 1));
            Edges.due(0, () -> Edges.listed(3, 1).veto(1, 1));
        });
        tellingByNumbers();
    }

    private static void tellingByNumbers() {
        Edges.sentence("Promise 14", "A BODY is that with a number. It is LET.", () -> {
            Seatpower x = Edges.listed(3, 1);
            x.make(1, 18);
            Edges.due("1|1 2 4", () -> x.least(0, false) + "|" + x.least(1, false));
            x.make(1, 0);
            Edges.due("", () -> x.least(1, false));
            x.make(0, 19);
            Edges.due("1", () -> x.least(0, false));
        });
        Edges.sentence("Promise 14", MANY_WIN + "; -9, if there are more than 4 MEMBERS, or not so many BODIES.", () -> {
            for (int members = 1; members <= 4; members++) {
                int many = members;
                Edges.due(0, () -> Edges.listed(many).make(0, 0));
                Edges.due(1, () -> Edges.listed(many).make(0, 1));
                Edges.due((1 << many) - 1, () -> Edges.listed(many).make(0, BODIES[many] - 1));
                Edges.due(-9, () -> Edges.listed(many).make(0, BODIES[many]));
                Edges.due(-9, () -> Edges.listed(many).make(0, Edges.HIGH));
            }
            Edges.due(-9, () -> Edges.listed(5).make(0, 0));
            Edges.due(-9, () -> Edges.listed(6).make(0, 1));
        });
    }
}
