/** For each promise of the document: ordinary calls, the edges, and wrong calls. */
public final class PromisesTest {
    private static final String INDEX = "IndexOutOfBoundsException";
    private static final String ARGUMENT = "IllegalArgumentException";
    private static final String STATE = "IllegalStateException";
    private static final int LOW = Integer.MIN_VALUE;
    private static final int HIGH = Integer.MAX_VALUE;

    private static int promise;
    private static int wrong = 0;

    /** A call whose answer, or the exception's name, is looked at. */
    private interface Call {
        Object answer();
    }

    private static void due(Object due, Call call) {
        Object got;
        try {
            got = call.answer();
        } catch (RuntimeException e) {
            got = e.getClass().getSimpleName();
        }
        if (!due.equals(got)) {
            wrong++;
            System.out.println("promise " + promise + ": answered " + got + ", due is " + due + " at "
                    + Thread.currentThread().getStackTrace()[2]);
        }
    }

    public static void main(String[] args) {
        bodies();
        asking();
        seating();
        whole();
        System.out.println(wrong == 0 ? "all promises kept" : wrong + " answers are wrong");
        System.exit(wrong == 0 ? 0 : 1);
    }

    private static void bodies() {
        promise1();
        promise2();
        promise3();
        promise4();
        promise5();
        promise6();
        promise7();
        promise8();
        promise9();
        promise10();
        promise11();
        promise12();
        promise13();
        promise14();
    }

    private static void asking() {
        promise15();
        promise16();
        promise17();
        promise18();
        promise19();
        promise20();
        promise21();
        promise22();
        promise23();
        promise24();
        promise25();
        promise26();
    }

    private static void seating() {
        promise27();
        promise28();
        promise29();
        promise30();
        promise31();
        promise32();
        promise33();
        promise34();
        promise35();
        promise36();
        promise37();
        promise38();
        promise39();
        promise40();
    }

    private static void whole() {
        promise41();
        promise42();
        promise43();
        promise44();
    }

    /** A council of so many members with these weights. */
    private static Seatpower council(int... weights) {
        Seatpower x = new Seatpower();
        x.members(weights.length);
        for (int member = 0; member < weights.length; member++) {
            x.weight(member, weights[member]);
        }
        return x;
    }

    /** A council of so many members whose body 0 is told by groups. */
    private static Seatpower listed(int members, int... groups) {
        Seatpower x = new Seatpower();
        x.members(members);
        for (int group : groups) {
            x.list(0, group);
        }
        return x;
    }

    private static Seatpower poll(int... votes) {
        Seatpower x = new Seatpower();
        x.parties(votes.length);
        for (int party = 0; party < votes.length; party++) {
            x.votes(party, votes[party]);
        }
        return x;
    }

    /** How often a call could be undone tells whether one was done. */
    private static void nothingDone(Seatpower x, int undoable) {
        due(undoable, () -> x.house(9));
    }

    private static void promise1() {
        promise = 1;
        Seatpower x = new Seatpower();
        int[] due = {3, 3, 0, 3, 0, 0, 0, 0, 0, 0, 0};
        for (int what = 0; what <= 10; what++) {
            int asked = what;
            due(due[what], () -> x.house(asked));
        }
        for (int body = 0; body < 4; body++) {
            int asked = body;
            due(0, () -> x.ofBody(asked, 0));
            due("", () -> x.least(asked, false));
        }
        due(1, () -> x.weight(2, 1));
        due(5, () -> x.like(0, 2, 5));
        due(0, () -> x.quarrel(0, 2, true));
        due(0, () -> x.votes(2, 0));
        due(0, () -> x.minimum(2, 0));
        due(0, () -> x.bar(0));
        due("0 0 0", () -> new Seatpower().all(0, 5));
    }

    private static void promise2() {
        promise = 2;
        Seatpower x = new Seatpower();
        for (int many : new int[] {0, 7, -1, LOW, HIGH}) {
            due(ARGUMENT, () -> x.members(many));
        }
        nothingDone(x, 0);
        x.weight(0, 7);
        x.like(0, 1, 2);
        x.quarrel(0, 1, true);
        x.list(3, 1);
        x.votes(0, 9);
        due(3, () -> x.members(6));
        due(6, () -> x.house(0));
        due(6, () -> x.house(1));
        due(0, () -> x.house(2));
        due(0, () -> x.ofBody(3, 0));
        due(5, () -> x.like(0, 1, 5));
        due(5, () -> x.like(4, 5, 5));
        due(9, () -> x.house(4));
        due(6, () -> x.members(1));
        due(INDEX, () -> x.weight(1, 1));
        due(1, () -> x.list(0, 1));
        due(1, () -> x.members(1));
        due(0, () -> x.ofBody(0, 0));
    }

    private static void promise3() {
        promise = 3;
        Seatpower x = council(3, 2, 1);
        x.quota(0, 4, 0);
        due(3, () -> x.weight(0, 0));
        due(0, () -> x.weight(0, 99));
        due(99, () -> x.weight(0, 99));
        due(102, () -> x.house(1));
        due("3 5", () -> x.least(0, false));
        due(INDEX, () -> x.weight(3, 100));
        due(INDEX, () -> x.weight(-1, 1));
        due(INDEX, () -> x.weight(LOW, LOW));
        due(ARGUMENT, () -> x.weight(2, 100));
        due(ARGUMENT, () -> x.weight(2, -1));
        due(1, () -> x.weight(2, 5));
    }

    private static void promise4() {
        promise = 4;
        Seatpower x = new Seatpower();
        due(5, () -> x.like(0, 1, 9));
        due(9, () -> x.like(1, 0, 0));
        due(0, () -> x.like(0, 1, 3));
        due(5, () -> x.like(1, 2, 5));
        due(INDEX, () -> x.like(0, 3, 10));
        due(INDEX, () -> x.like(3, 3, 1));
        due(INDEX, () -> x.like(-1, 0, 1));
        due(ARGUMENT, () -> x.like(2, 2, 1));
        due(ARGUMENT, () -> x.like(0, 1, 10));
        due(ARGUMENT, () -> x.like(0, 1, -1));
        nothingDone(x, 4);
        due(3, () -> x.like(0, 1, 3));
    }

    private static void promise5() {
        promise = 5;
        Seatpower x = new Seatpower();
        due(0, () -> x.quarrel(0, 1, true));
        due(1, () -> x.quarrel(1, 0, true));
        due(1, () -> x.house(2));
        due(0, () -> x.quarrel(2, 0, true));
        due(2, () -> x.house(2));
        due(1, () -> x.quarrel(0, 1, false));
        due(0, () -> x.quarrel(0, 1, false));
        due(1, () -> x.house(2));
        due(1, () -> x.quarrel(0, 2, true));
        due(INDEX, () -> x.quarrel(3, 3, true));
        due(INDEX, () -> x.quarrel(0, -1, true));
        due(INDEX, () -> x.quarrel(-1, 0, true));
        due(ARGUMENT, () -> x.quarrel(1, 1, true));
        nothingDone(x, 6);
        due(0, () -> x.quarrel(1, 2, true));
        due(1, () -> x.quarrel(1, 2, false));
        due(0, () -> x.quarrel(2, 1, false));
        due(1, () -> x.house(2));
    }

    private static void promise6() {
        promise = 6;
        Seatpower x = council(4, 3, 2);
        due(4, () -> x.quota(0, 5, 0));
        due("3 5 6", () -> x.least(0, false));
        due(1, () -> x.quota(0, 5, 3));
        due(0, () -> x.quota(0, 999, 0));
        due(0, () -> x.quota(0, 5, 4));
        due(0, () -> x.quota(0, 1, 6));
        due(4, () -> x.quota(0, 1, 2));
        due(-8, () -> x.quota(0, 4, 0));
        due(4, () -> x.ofBody(0, 0));
        due(-8, () -> x.quota(0, 1, 1));
        due(INDEX, () -> x.quota(4, 0, 0));
        due(INDEX, () -> x.quota(-1, 5, 0));
        due(ARGUMENT, () -> x.quota(0, 0, 0));
        due(ARGUMENT, () -> x.quota(0, 1000, 0));
        due(ARGUMENT, () -> x.quota(0, 1, -1));
        due(ARGUMENT, () -> x.quota(0, 1, 7));
        nothingDone(x, 10);
        Seatpower y = council(99, 99, 99, 99, 99, 99);
        due(1, () -> y.quota(3, 594, 0));
        due(0, () -> y.quota(3, 595, 0));
        due(22, () -> y.quota(3, 396, 0));
        due(-8, () -> y.quota(3, 297, 0));
        due(1, () -> council(1).quota(0, 1, 0));
    }

    private static void promise7() {
        promise = 7;
        Seatpower x = listed(3, 1);
        due(4, () -> x.none(0));
        due(0, () -> x.none(0));
        due(false, () -> x.wins(0, 7));
        due(INDEX, () -> x.none(4));
        due(INDEX, () -> x.none(-1));
        nothingDone(x, 4);
    }

    private static void promise8() {
        promise = 8;
        Seatpower x = new Seatpower();
        due(2, () -> x.list(1, 3));
        due(2, () -> x.list(1, 7));
        due(5, () -> x.list(1, 4));
        due("3 4", () -> x.least(1, false));
        due(0, () -> x.ofBody(0, 0));
        due(INDEX, () -> x.list(4, 0));
        due(ARGUMENT, () -> x.list(0, 0));
        due(ARGUMENT, () -> x.list(0, 8));
        due(ARGUMENT, () -> x.list(0, -1));
        nothingDone(x, 3);
        due(63, () -> {
            Seatpower y = listed(6, 1, 2, 4, 8, 16);
            return y.list(0, 32);
        });
    }

    private static void promise9() {
        promise = 9;
        Seatpower x = listed(3, 3, 4);
        x.list(1, 5);
        x.list(1, 2);
        due(6, () -> x.join(0, 1, 2, true));
        due("2 4", () -> x.least(2, false));
        due(4, () -> x.join(0, 1, 3, false));
        due("3 5 6", () -> x.least(3, false));
        due("3 4", () -> x.least(0, false));
        due(4, () -> x.join(0, 3, 0, false));
        due("3 5 6", () -> x.least(0, false));
        due(0, () -> {
            x.none(3);
            return x.join(0, 3, 3, false);
        });
        due(INDEX, () -> x.join(4, 0, 0, true));
        due(INDEX, () -> x.join(0, -1, 0, true));
        due(INDEX, () -> x.join(0, 0, 4, false));
    }

    private static void promise10() {
        promise = 10;
        Seatpower x = listed(3, 1);
        due(4, () -> x.dual(0, 1));
        due(true, () -> x.same(0, 1));
        x.none(0);
        due(1, () -> x.list(0, 7));
        due(7, () -> x.dual(0, 0));
        due("1 2 4", () -> x.least(0, false));
        due(-8, () -> x.dual(3, 0));
        due("1 2 4", () -> x.least(0, false));
        nothingDone(x, 6);
        due(INDEX, () -> x.dual(4, 0));
        due(INDEX, () -> x.dual(3, 4));
    }

    private static void promise11() {
        promise = 11;
        Seatpower x = listed(3, 3, 5, 6);
        due(4, () -> x.bloc(0, 6, 1));
        due("2", () -> x.least(1, false));
        due("3 5 6", () -> x.least(0, false));
        due(4, () -> x.bloc(0, 5, 0));
        due("1", () -> x.least(0, false));
        due(4, () -> x.bloc(1, 7, 2));
        due("1", () -> x.least(2, false));
        due(INDEX, () -> x.bloc(4, 0, 0));
        due(INDEX, () -> x.bloc(0, 0, 4));
        due(ARGUMENT, () -> x.bloc(0, 0, 1));
        due(ARGUMENT, () -> x.bloc(0, 8, 1));
        due(ARGUMENT, () -> x.bloc(0, -2, 1));
        nothingDone(x, 7);
    }

    private static void promise12() {
        promise = 12;
        Seatpower x = listed(4, 3);
        x.list(1, 4);
        x.list(1, 8);
        due(6, () -> x.within(0, 1, 1, 2));
        due("5 9", () -> x.least(2, false));
        due(0, () -> x.within(0, 0, 3, 3));
        due("", () -> x.least(3, false));
        due("5 9", () -> {
            x.within(0, 1, 1, 0);
            return x.least(0, false);
        });
        due(INDEX, () -> x.within(4, 0, 0, 0));
        due(INDEX, () -> x.within(0, 4, 0, 0));
        due(INDEX, () -> x.within(0, 0, 4, 0));
        due(INDEX, () -> x.within(0, 0, 0, 4));
    }

    private static void promise13() {
        promise = 13;
        Seatpower x = listed(3, 3, 5, 6);
        due(3, () -> x.veto(0, 2));
        due("5 6", () -> x.least(0, false));
        due(2, () -> x.veto(0, 1));
        due(0, () -> x.veto(1, 0));
        due(INDEX, () -> x.veto(4, 0));
        due(INDEX, () -> x.veto(0, 3));
        due(INDEX, () -> x.veto(0, -1));
        nothingDone(x, 7);
    }

    private static void promise14() {
        promise = 14;
        Seatpower x = new Seatpower();
        due(0, () -> x.make(0, 0));
        due(1, () -> x.make(0, 1));
        due("7", () -> x.least(0, false));
        due(7, () -> x.make(0, 18));
        due("1 2 4", () -> x.least(0, false));
        due(-9, () -> x.make(0, 19));
        due(-9, () -> x.make(0, HIGH));
        due(18, () -> x.ofBody(0, 8));
        due(INDEX, () -> x.make(4, -1));
        due(ARGUMENT, () -> x.make(0, -1));
        due(ARGUMENT, () -> x.make(0, LOW));
        nothingDone(x, 3);
        int[] counts = {2, 5, 19, 167};
        for (int members = 1; members <= 4; members++) {
            Seatpower y = new Seatpower();
            y.members(members);
            int last = counts[members - 1] - 1;
            int all = (1 << members) - 1;
            due(all, () -> y.make(3, last));
            due(-9, () -> y.make(3, last + 1));
        }
        due(-9, () -> {
            x.members(5);
            return x.make(0, 0);
        });
    }

    private static void promise15() {
        promise = 15;
        Seatpower x = listed(6, 32);
        due(true, () -> x.wins(0, 63));
        due(true, () -> x.wins(0, 32));
        due(false, () -> x.wins(0, 31));
        due(false, () -> x.wins(0, 0));
        due(false, () -> x.wins(1, 63));
        due(INDEX, () -> x.wins(4, 64));
        due(ARGUMENT, () -> x.wins(0, 64));
        due(ARGUMENT, () -> x.wins(0, -1));
    }

    private static void ofBodyIs(Seatpower x, int... due) {
        for (int what = 0; what < due.length; what++) {
            int asked = what;
            due(due[what], () -> x.ofBody(0, asked));
        }
    }

    private static void promise16() {
        promise = 16;
        ofBodyIs(new Seatpower(), 0, 0, 1, 0, -1, 0, 7, 0, 0);
        ofBodyIs(listed(3, 3, 5, 6), 4, 3, 1, 1, -1, 0, 0, 6, 10);
        ofBodyIs(listed(3, 1), 4, 1, 1, 1, 0, 1, 6, 4, 5);
        ofBodyIs(listed(3, 1, 2, 4), 7, 3, 0, 1, -1, 0, 0, 3, 18);
        ofBodyIs(listed(3, 6), 2, 1, 1, 0, -1, 6, 1, 4, 6);
        ofBodyIs(listed(1, 1), 1, 1, 1, 1, 0, 1, 0, 1, 1);
        ofBodyIs(listed(4, 3, 12), 7, 2, 0, 0, -1, 0, 0, 12);
        ofBodyIs(listed(6, 63), 1, 1, 1, 0, -1, 63, 0, 6, -1);
        ofBodyIs(listed(5, 16), 16, 1, 1, 1, 4, 16, 15, 16, -1);
        Seatpower x = new Seatpower();
        due(INDEX, () -> x.ofBody(4, 9));
        due(ARGUMENT, () -> x.ofBody(3, 9));
        due(ARGUMENT, () -> x.ofBody(3, -1));
    }

    private static void promise17() {
        promise = 17;
        Seatpower x = listed(3, 6, 1);
        due("1 6", () -> x.least(0, false));
        due("3 5", () -> x.least(0, true));
        due("", () -> x.least(1, false));
        due("0", () -> x.least(1, true));
        due("1 2 4", () -> listed(3, 7).least(0, true));
        due("7", () -> listed(3, 1, 2, 4).least(0, true));
        due(INDEX, () -> x.least(4, false));
        due(INDEX, () -> x.least(-1, true));
    }

    private static void promise18() {
        promise = 18;
        Seatpower x = listed(4, 3, 5);
        due(6, () -> x.swings(0, 0, false));
        due(2, () -> x.swings(0, 1, false));
        due(0, () -> x.swings(0, 3, false));
        x.quarrel(0, 1, true);
        due(2, () -> x.swings(0, 0, true));
        due(0, () -> x.swings(0, 1, true));
        due(2, () -> x.swings(0, 2, true));
        x.quarrel(1, 3, true);
        due(6, () -> x.swings(0, 0, false));
        due(2, () -> x.swings(0, 2, true));
        due(INDEX, () -> x.swings(4, 0, true));
        due(INDEX, () -> x.swings(0, 4, false));
        due(INDEX, () -> x.swings(0, -1, false));
    }

    private static void powersAre(Seatpower x, int member, String... due) {
        for (int kind = 0; kind < due.length; kind++) {
            int asked = kind;
            due(due[kind], () -> x.power(0, member, asked));
        }
    }

    private static void promise19() {
        promise = 19;
        powersAre(listed(3, 3, 5), 0, "3/5", "3/4", "2/3", "1/2", "1/2");
        powersAre(listed(3, 3, 5), 1, "1/5", "1/4", "1/6", "1/4", "1/4");
        powersAre(listed(4, 3, 5, 8), 3, "1/2", "5/8", "7/12", "1/3", "1/5");
        powersAre(listed(3, 3, 5, 2), 0, "1/5", "1/4", "1/6", "1/4", "1/3");
        powersAre(listed(2, 1), 0, "1", "1", "1", "1", "1");
        powersAre(listed(2, 1), 1, "0", "0", "0", "0", "0");
        powersAre(listed(6, 63), 5, "1/6", "1/32", "1/6", "1/6", "1/6");
        powersAre(listed(1, 1), 0, "1", "1", "1", "1", "1");
        powersAre(new Seatpower(), 2, "0", "0", "0", "0", "0");
        Seatpower x = new Seatpower();
        due(INDEX, () -> x.power(4, 0, 5));
        due(INDEX, () -> x.power(0, 3, 5));
        due(ARGUMENT, () -> x.power(0, 0, 5));
        due(ARGUMENT, () -> x.power(0, 0, -1));
    }

    private static void promise20() {
        promise = 20;
        Seatpower x = listed(3, 7);
        int[] last = {2, 2, 1, 1, 0, 0, 2, 2};
        for (int order = 0; order < last.length; order++) {
            int asked = order;
            due(last[order], () -> x.turner(0, asked));
        }
        due(-1, () -> x.turner(1, 0));
        due(1, () -> listed(3, 2).turner(0, 1));
        due(0, () -> listed(6, 1).turner(0, HIGH));
        due(0, () -> listed(1, 1).turner(0, HIGH));
        due(INDEX, () -> x.turner(4, -1));
        due(ARGUMENT, () -> x.turner(0, -1));
        due(ARGUMENT, () -> x.turner(0, LOW));
    }

    private static void promise21() {
        promise = 21;
        Seatpower x = listed(3, 3, 5, 6);
        x.quota(1, 2, 0);
        due(true, () -> x.same(0, 1));
        due(true, () -> x.same(0, 0));
        due(false, () -> x.same(0, 2));
        due(true, () -> x.same(2, 3));
        due(INDEX, () -> x.same(4, 0));
        due(INDEX, () -> x.same(0, -1));
    }

    private static void promise22() {
        promise = 22;
        Seatpower x = listed(4, 3, 5);
        due(true, () -> x.areAlike(0, 1, 2));
        due(false, () -> x.areAlike(0, 0, 1));
        due(false, () -> x.areAlike(0, 3, 1));
        due(true, () -> x.areAlike(0, 3, 3));
        due(true, () -> x.areAlike(1, 0, 3));
        due(INDEX, () -> x.areAlike(4, 0, 0));
        due(INDEX, () -> x.areAlike(0, 4, 0));
        due(INDEX, () -> x.areAlike(0, 0, -1));
    }

    private static void promise23() {
        promise = 23;
        due("1:0 0 0", () -> new Seatpower().weights(0));
        due("1:0", () -> listed(1).weights(0));
        due("1:1 1 1", () -> listed(3, 1, 2, 4).weights(0));
        due("2:1 1 1", () -> listed(3, 3, 5, 6).weights(0));
        due("3:2 1 1", () -> listed(3, 3, 5).weights(0));
        Seatpower x = council(30, 20, 20, 10, 10);
        x.quota(0, 46, 0);
        due("5:3 2 2 1 1", () -> x.weights(0));
        due("4:0 1 1 1 1", () -> listed(5, 30).weights(0));
        due("!", () -> listed(4, 3, 12).weights(0));
        due("!", () -> listed(5, 3, 12).weights(0));
        due("?", () -> listed(6).weights(0));
        due(INDEX, () -> new Seatpower().weights(4));
        due(INDEX, () -> listed(6).weights(-1));
    }

    private static void promise24() {
        promise = 24;
        due("3 12|5 10", () -> listed(4, 3, 12).trade(0));
        due("-", () -> listed(4, 3, 5, 6).trade(0));
        due("-", () -> new Seatpower().trade(0));
        due("3 20|5 18", () -> listed(5, 3, 24, 20).trade(0));
        due("3 28|5 26", () -> listed(5, 3, 28).trade(0));
        due("-", () -> listed(3, 1, 6).trade(0));
        due("5 10|3 12", () -> listed(6, 5, 10).trade(0));
        due(INDEX, () -> new Seatpower().trade(4));
    }

    private static void promise25() {
        promise = 25;
        due(6, () -> council(4, 3, 2).best(0));
        due(5, () -> council(4, 3, 2).best(2));
        due(2, () -> council(0, 1, 1).best(0));
        due(-1, () -> council(0, 0).best(1));
        due(1, () -> council(1).best(0));
        due(41, () -> council(99, 20, 20).best(0));
        due(120, () -> council(99, 20, 20).best(1));
        due(2, () -> council(2, 0, 1).best(1));
        due(1, () -> council(99).best(0));
        due(4, () -> council(1, 1, 1, 1, 1, 1).best(5));
        due(INDEX, () -> new Seatpower().best(3));
        due(INDEX, () -> new Seatpower().best(-1));
    }

    private static void promise26() {
        promise = 26;
        Seatpower x = listed(4, 3, 5, 14);
        due(3, () -> x.held(0));
        x.like(0, 2, 6);
        due(5, () -> x.held(0));
        x.quarrel(0, 2, true);
        due(3, () -> x.held(0));
        x.quarrel(1, 0, true);
        x.like(1, 2, 0);
        due(14, () -> x.held(0));
        x.quarrel(3, 2, true);
        due(-1, () -> x.held(0));
        due(-1, () -> x.held(1));
        due(8, () -> {
            x.list(1, 7);
            x.list(1, 8);
            return x.held(1);
        });
        due(3, () -> {
            Seatpower y = listed(3, 3, 4);
            y.like(0, 1, 9);
            return y.held(0);
        });
        due(INDEX, () -> x.held(4));
        due(INDEX, () -> x.held(-1));
    }

    private static void promise27() {
        promise = 27;
        Seatpower x = poll(5, 6);
        x.minimum(0, 3);
        x.bar(7);
        x.weight(0, 8);
        due(2, () -> x.parties(6));
        due(0, () -> x.house(4));
        due(7, () -> x.house(8));
        due(10, () -> x.house(1));
        due(0, () -> x.minimum(0, 0));
        due("0 0 0 0 0 0", () -> x.all(5, 40));
        due(6, () -> x.parties(1));
        due(INDEX, () -> x.votes(1, 1));
        for (int many : new int[] {0, 7, LOW, HIGH}) {
            due(ARGUMENT, () -> x.parties(many));
        }
        due(1, () -> x.house(3));
    }

    private static void promise28() {
        promise = 28;
        Seatpower x = new Seatpower();
        due(0, () -> x.votes(2, 9999));
        due(9999, () -> x.votes(2, 0));
        due(0, () -> x.votes(2, 4));
        due(4, () -> x.house(4));
        due(INDEX, () -> x.votes(3, 10000));
        due(INDEX, () -> x.votes(-1, 0));
        due(ARGUMENT, () -> x.votes(0, 10000));
        due(ARGUMENT, () -> x.votes(0, -1));
        nothingDone(x, 3);
    }

    private static void promise29() {
        promise = 29;
        Seatpower x = poll(0, 1, 1);
        due(0, () -> x.minimum(0, 9));
        due(9, () -> x.minimum(0, 4));
        due(0, () -> x.minimum(1, 2));
        due(2, () -> x.house(7));
        due("0 2 0", () -> x.all(5, 2));
        due(INDEX, () -> x.minimum(3, 10));
        due(INDEX, () -> x.minimum(-1, 0));
        due(ARGUMENT, () -> x.minimum(0, 10));
        due(ARGUMENT, () -> x.minimum(0, -1));
        due(4, () -> x.minimum(0, 4));
    }

    private static void promise30() {
        promise = 30;
        Seatpower x = poll(60, 30, 10);
        due(0, () -> x.bar(10));
        due(3, () -> x.house(6));
        due(10, () -> x.bar(11));
        due(2, () -> x.house(6));
        due(11, () -> x.bar(50));
        due(1, () -> x.house(6));
        due(50, () -> x.bar(0));
        due(3, () -> x.house(6));
        for (int percent : new int[] {-1, 51, LOW, HIGH}) {
            due(ARGUMENT, () -> x.bar(percent));
        }
        due(0, () -> x.house(8));
        due(0, () -> {
            Seatpower y = poll(1, 1, 1);
            y.bar(50);
            return y.house(6);
        });
        Seatpower z = poll(81, 10);
        z.bar(11);
        due(1, () -> z.house(6));
        z.bar(10);
        due(2, () -> z.house(6));
    }

    private static void promise31() {
        promise = 31;
        Seatpower x = new Seatpower();
        due(STATE, () -> x.undo());
        x.members(4);
        x.weight(3, 9);
        x.like(0, 3, 1);
        x.quarrel(0, 3, true);
        x.list(2, 8);
        x.votes(1, 77);
        x.minimum(1, 7);
        x.bar(9);
        x.knock();
        due(7, () -> x.undo());
        due(0, () -> x.house(8));
        due(6, () -> x.undo());
        due(0, () -> x.house(7));
        due(5, () -> x.undo());
        due(0, () -> x.house(4));
        due(4, () -> x.undo());
        due(0, () -> x.ofBody(2, 0));
        due(3, () -> x.undo());
        due(0, () -> x.house(2));
        due(2, () -> x.undo());
        due(5, () -> x.like(3, 0, 5));
        due(2, () -> x.undo());
        due(1, () -> x.undo());
        due(4, () -> x.house(1));
        due(0, () -> x.undo());
        due(3, () -> x.house(0));
        due(STATE, () -> x.undo());
        due(1, () -> x.house(10));
        undoAllKinds();
        undoTenOnly();
    }

    private static void undoAllKinds() {
        Seatpower x = listed(3, 1, 6);
        x.votes(0, 5);
        long before = x.digest();
        Call[] calls = {() -> x.none(0), () -> x.join(0, 0, 1, true), () -> x.dual(0, 1), () -> x.bloc(0, 1, 1),
            () -> x.within(0, 1, 0, 1), () -> x.veto(0, 0), () -> x.make(0, 3), () -> x.quota(0, 3, 0),
            () -> x.parties(3), () -> x.parties(5), () -> x.members(2), () -> x.weight(0, 1)};
        for (Call call : calls) {
            call.answer();
            due(4, () -> x.undo());
            due(before, () -> x.digest());
        }
        due(-8, () -> x.quota(0, 1, 0));
        due(-8, () -> x.dual(3, 0));
        due(-9, () -> x.make(0, 99));
        due(before, () -> x.digest());
    }

    private static void undoTenOnly() {
        Seatpower x = new Seatpower();
        for (int weight = 1; weight <= 25; weight++) {
            x.weight(0, weight);
        }
        due(10, () -> x.house(9));
        for (int left = 9; left >= 0; left--) {
            due(left, () -> x.undo());
            due(17 + left, () -> x.house(1));
        }
        due(STATE, () -> x.undo());
        due(15, () -> x.weight(0, 50));
        due(0, () -> x.undo());
    }

    private static void promise32() {
        promise = 32;
        Seatpower x = poll(60, 30, 10);
        due(4, () -> x.seats(0, 0, 5));
        due(1, () -> x.seats(1, 0, 5));
        due(2, () -> x.seats(1, 1, 5));
        due(0, () -> x.seats(2, 5, 5));
        due(0, () -> x.seats(2, 5, 0));
        x.minimum(2, 3);
        due(-8, () -> x.seats(0, 5, 2));
        due(3, () -> x.seats(2, 5, 3));
        due(INDEX, () -> x.seats(3, 6, 41));
        due(INDEX, () -> x.seats(-1, 0, 0));
        due(ARGUMENT, () -> x.seats(0, 6, 0));
        due(ARGUMENT, () -> x.seats(0, -1, 0));
        due(ARGUMENT, () -> x.seats(0, 0, 41));
        due(ARGUMENT, () -> x.seats(0, 0, -1));
    }

    private static void promise33() {
        promise = 33;
        Seatpower x = poll(60, 30, 10);
        String[] due = {"4 1 0", "3 2 0", "3 1 1", "3 1 1", "3 1 1", "3 2 0"};
        for (int method = 0; method <= 5; method++) {
            int asked = method;
            due(due[method], () -> x.all(asked, 5));
        }
        due("1 1 1", () -> poll(3, 2, 1).all(2, 3));
        due("0 1 1", () -> poll(1, 3, 2).all(3, 2));
        due("1 1 0", () -> poll(2, 2, 2).all(4, 2));
        due("1 0 0", () -> poll(2, 2, 2).all(0, 1));
        due("2 1 0", () -> poll(4, 2, 1).all(0, 3));
        due("2 2 1", () -> poll(7, 7, 7).all(5, 5));
        due("40", () -> poll(1).all(3, 40));
        due("20 20 0", () -> poll(9999, 9999, 0).all(3, 40));
        x.minimum(1, 3);
        due("2 3 0", () -> x.all(0, 5));
        due("!", () -> x.all(5, 2));
        due("1 4 0", () -> x.all(5, 5));
        x.bar(31);
        due("5 0 0", () -> x.all(1, 5));
        due("0 0 0", () -> poll(0, 0, 0).all(1, 5));
        due(ARGUMENT, () -> x.all(6, 0));
        due(ARGUMENT, () -> x.all(-1, 0));
        due(ARGUMENT, () -> x.all(0, 41));
        due(ARGUMENT, () -> x.all(0, -1));
    }

    private static void promise34() {
        promise = 34;
        Seatpower x = poll(60, 30, 10);
        due("15..15", () -> x.range(0, 5));
        due("24..24", () -> poll(60, 36, 10).range(1, 4));
        due("30..30", () -> x.range(2, 5));
        due("1800..*", () -> x.range(3, 3));
        due("45..*", () -> x.range(4, 3));
        due("*..-", () -> x.range(2, 0));
        due("*..*", () -> x.range(2, 1));
        due("60..-", () -> x.range(0, 0));
        due("-..-", () -> poll(0, 0).range(0, 4));
        x.minimum(1, 3);
        due("20..30", () -> x.range(0, 5));
        due("60..-", () -> x.range(0, 3));
        due("!", () -> x.range(0, 2));
        due("2/81..2/79", () -> poll(1).range(1, 40));
        due("99980001/2..*", () -> poll(9999).range(3, 1));
        due("99980001/1640..33326667/520", () -> poll(9999).range(3, 40));
        due(ARGUMENT, () -> x.range(5, 0));
        due(ARGUMENT, () -> x.range(-1, 0));
        due(ARGUMENT, () -> x.range(0, 41));
        due(ARGUMENT, () -> x.range(0, -1));
    }

    private static void promise35() {
        promise = 35;
        Seatpower x = poll(6, 6, 2);
        due("3:2", () -> x.odd(5));
        for (int method = 0; method <= 4; method++) {
            int asked = method;
            due("-", () -> x.odd(asked));
        }
        x.minimum(0, 4);
        due("7:2", () -> x.odd(5));
        due("39:1", () -> poll(60, 19, 56, 29).odd(5));
        due("-", () -> poll(790, 765, 378, 23, 430, 18).odd(5));
        due("-", () -> poll(1, 1).odd(5));
        due("-", () -> poll(0, 0).odd(5));
        due(ARGUMENT, () -> x.odd(6));
        due(ARGUMENT, () -> x.odd(-1));
    }

    private static void promise36() {
        promise = 36;
        Seatpower x = poll(60, 30, 10);
        due("1", () -> x.merged(0, 5, 1, 2));
        due("1", () -> poll(50, 25, 25).merged(0, 2, 1, 2));
        due("-1", () -> x.merged(2, 3, 1, 2));
        due("1", () -> poll(25, 50, 25).merged(0, 1, 0, 2));
        due("0", () -> poll(25, 50, 25).merged(0, 1, 2, 0));
        x.bar(25);
        due("0", () -> x.merged(5, 5, 2, 1));
        x.minimum(1, 3);
        x.minimum(2, 3);
        due("!", () -> x.merged(0, 2, 0, 1));
        due("!", () -> x.merged(0, 5, 1, 2));
        due("3", () -> x.merged(0, 6, 1, 2));
        due(INDEX, () -> x.merged(6, 41, 3, 3));
        due(INDEX, () -> x.merged(0, 0, 0, -1));
        due(INDEX, () -> x.merged(0, 0, 3, 0));
        due(INDEX, () -> x.merged(0, 0, -1, 0));
        due(ARGUMENT, () -> x.merged(6, 0, 0, 1));
        due(ARGUMENT, () -> x.merged(0, 41, 0, 1));
        due(ARGUMENT, () -> x.merged(0, 0, 1, 1));
    }

    private static void promise37() {
        promise = 37;
        Seatpower x = poll(60, 30, 10);
        due("2 1 2", () -> x.moved(1, 5, 0, 2, 30));
        due("0 2 3", () -> x.moved(1, 5, 0, 2, 60));
        due("0 2 3", () -> x.moved(1, 5, 0, 2, HIGH));
        due("3 2 0", () -> x.moved(1, 5, 0, 2, 0));
        due("3 2 0", () -> x.all(1, 5));
        due(60, () -> x.votes(0, 60));
        x.bar(20);
        x.minimum(2, 4);
        due("!", () -> x.moved(5, 3, 0, 2, 10));
        due("2 1 0", () -> x.moved(5, 3, 0, 2, 9));
        due(INDEX, () -> x.moved(6, 0, 3, 3, -1));
        due(INDEX, () -> x.moved(0, 0, 3, 0, 1));
        due(INDEX, () -> x.moved(0, 0, 0, 3, 1));
        due(INDEX, () -> x.moved(0, 0, -1, 0, 1));
        due(INDEX, () -> x.moved(0, 0, 0, -1, 1));
        due(ARGUMENT, () -> x.moved(6, 0, 0, 1, 0));
        due(ARGUMENT, () -> x.moved(0, 41, 0, 1, 0));
        due(ARGUMENT, () -> x.moved(0, 0, 1, 1, 0));
        due(ARGUMENT, () -> x.moved(0, 0, 0, 1, -1));
        due(ARGUMENT, () -> x.moved(0, 0, 0, 1, LOW));
    }

    private static void promise38() {
        promise = 38;
        Seatpower x = poll(60, 30, 10);
        due(0, () -> x.missed(5, 5));
        due(1, () -> x.missed(0, 5));
        due(0, () -> poll(60, 30, 10).missed(0, 10));
        Seatpower y = poll(90, 4, 3, 3);
        due(1, () -> y.missed(2, 10));
        due("7 1 1 1", () -> y.all(2, 10));
        due(1, () -> y.missed(0, 25));
        y.minimum(1, 9);
        due(2, () -> y.missed(5, 9));
        due(-8, () -> y.missed(5, 8));
        due(0, () -> poll(0, 0).missed(0, 9));
        y.bar(5);
        due(0, () -> y.missed(5, 8));
        due(ARGUMENT, () -> x.missed(6, 0));
        due(ARGUMENT, () -> x.missed(0, 41));
        due(ARGUMENT, () -> x.missed(0, -1));
    }

    private static void promise39() {
        promise = 39;
        Seatpower x = poll(60, 30, 10);
        due(1, () -> x.more(2, 1, 5));
        due(60, () -> x.votes(0, 60));
        due(1, () -> poll(60, 30, 0).more(2, 2, 5));
        due(-1, () -> poll(9999, 9999, 0).more(2, 0, 5));
        due(-1, () -> poll(198, 0).more(1, 0, 2));
        due(99, () -> poll(197, 0).more(1, 0, 2));
        due(-1, () -> x.more(0, 0, 0));
        x.bar(15);
        x.minimum(2, 4);
        due(6, () -> x.more(2, 0, 5));
        due(-1, () -> x.more(2, 0, 3));
        x.minimum(0, 6);
        due(-8, () -> x.more(1, 0, 5));
        due(INDEX, () -> x.more(3, 6, 41));
        due(INDEX, () -> x.more(-1, 0, 0));
        due(ARGUMENT, () -> x.more(0, 6, 0));
        due(ARGUMENT, () -> x.more(0, 0, 41));
        due(ARGUMENT, () -> x.more(0, -1, 0));
    }

    private static void promise40() {
        promise = 40;
        Seatpower x = poll(60, 30, 10);
        due("3/2", () -> x.share(1, 5));
        due("3", () -> x.share(1, 10));
        due("0", () -> x.share(1, 0));
        x.bar(15);
        due("40/3", () -> x.share(1, 40));
        due("-", () -> x.share(2, 40));
        due("-", () -> poll(0).share(0, 40));
        due(INDEX, () -> x.share(3, 41));
        due(INDEX, () -> x.share(-1, 0));
        due(ARGUMENT, () -> x.share(0, 41));
        due(ARGUMENT, () -> x.share(0, -1));
    }

    private static void promise41() {
        promise = 41;
        Seatpower x = council(9, 8, 7, 6);
        x.quarrel(0, 1, true);
        x.quarrel(3, 1, true);
        x.parties(5);
        x.votes(0, 100);
        x.votes(1, 50);
        x.votes(2, 7);
        x.minimum(0, 2);
        x.minimum(1, 3);
        x.minimum(2, 9);
        x.bar(5);
        x.knock();
        x.knock();
        int[] due = {4, 30, 2, 5, 157, 150, 2, 5, 5, 10, 2};
        for (int what = 0; what <= 10; what++) {
            int asked = what;
            due(due[what], () -> x.house(asked));
        }
        for (int what : new int[] {-1, 11, LOW, HIGH}) {
            due(ARGUMENT, () -> x.house(what));
        }
    }

    private static void promise42() {
        promise = 42;
        Seatpower x = new Seatpower();
        for (int knock = 1; knock <= 5; knock++) {
            int now = knock;
            due(now, () -> x.knock());
        }
        nothingDone(x, 0);
        x.bar(3);
        x.undo();
        due(6, () -> x.knock());
    }

    private static void promise43() {
        promise = 43;
        due(true, () -> new Seatpower().isSound());
        due(true, () -> listed(4, 3, 12).isSound());
        due(true, () -> listed(6, 1, 62).isSound());
        due(true, () -> poll(6, 6, 2).isSound());
        Seatpower x = poll(97, 55, 31, 31, 2, 1);
        x.minimum(0, 9);
        x.minimum(3, 3);
        x.members(5);
        x.list(0, 7);
        x.list(1, 25);
        due(true, () -> x.isSound());
        nothingDone(x, 10);
    }

    private static void promise44() {
        promise = 44;
        Seatpower x = new Seatpower();
        due(-3607667164143273767L, () -> x.digest());
        due(-3607667164143273767L, () -> x.digest());
        x.knock();
        due(-6749874222320229542L, () -> x.digest());
        x.bar(1);
        x.undo();
        due(-6749874222320229542L, () -> x.digest());
    }
}
