import java.math.BigInteger;
import java.util.ArrayDeque;
import java.util.Arrays;
import java.util.Deque;
import java.util.List;
import java.util.Random;

/** What the document says of all calls, of a new object, of undo(), house(), knock(), isSound() and digest(). */
final class CallEdges {
    /** Each call that can be undone, told to an object of four members and four parties. */
    private static final Edges.Step[] TELLING = {x -> x.members(4), x -> x.members(1), x -> x.weight(3, 99),
        x -> x.like(2, 3, 0), x -> x.quarrel(2, 3, true), x -> x.quarrel(0, 2, false), x -> x.quota(3, 10, 0),
        x -> x.none(1), x -> x.list(2, 3), x -> x.join(0, 1, 2, true), x -> x.join(0, 1, 1, false), x -> x.dual(1, 3),
        x -> x.dual(1, 1), x -> x.bloc(1, 6, 3), x -> x.within(1, 0, 2, 2), x -> x.veto(2, 1), x -> x.make(3, 9),
        x -> x.parties(4), x -> x.parties(1), x -> x.votes(0, 0), x -> x.minimum(0, 4), x -> x.bar(50)};

    /** Calls that are done, but leave all as it was. */
    private static final Edges.Step[] IDLE = {x -> x.weight(0, 9), x -> x.like(0, 1, 2), x -> x.quarrel(2, 0, true),
        x -> x.quota(0, 10, 2), x -> x.none(3), x -> x.list(1, 5), x -> x.list(1, 15), x -> x.join(1, 1, 1, false),
        x -> x.bloc(1, 4, 1), x -> x.within(1, 0, 1, 3), x -> x.veto(3, 0), x -> x.make(3, 0), x -> x.votes(0, 60),
        x -> x.minimum(2, 9), x -> x.bar(7)};

    /** Each call that only asks. */
    private static final Edges.Ask[] ASKING = {x -> x.wins(0, 7), x -> x.ofBody(0, 0), x -> x.ofBody(1, 1),
        x -> x.ofBody(1, 2), x -> x.ofBody(1, 3), x -> x.ofBody(1, 4), x -> x.ofBody(1, 5), x -> x.ofBody(1, 6),
        x -> x.ofBody(1, 7), x -> x.ofBody(1, 8), x -> x.least(1, false), x -> x.least(1, true),
        x -> x.swings(1, 0, false), x -> x.swings(1, 0, true), x -> x.power(1, 0, 0), x -> x.power(1, 0, 1),
        x -> x.power(1, 0, 2), x -> x.power(1, 0, 3), x -> x.power(1, 0, 4), x -> x.turner(1, 5), x -> x.same(0, 1),
        x -> x.areAlike(1, 0, 2), x -> x.weights(1), x -> x.trade(1), x -> x.best(1), x -> x.held(1),
        x -> x.seats(0, 0, 9), x -> x.seats(0, 5, 1), x -> x.all(1, 9), x -> x.all(5, 9), x -> x.range(2, 9),
        x -> x.range(3, 0), x -> x.odd(0), x -> x.odd(5), x -> x.merged(1, 9, 0, 1), x -> x.merged(5, 9, 1, 0),
        x -> x.moved(1, 9, 0, 1, 20), x -> x.moved(5, 9, 1, 2, 99), x -> x.missed(0, 9), x -> x.more(0, 0, 9),
        x -> x.more(2, 5, 9), x -> x.share(0, 9), x -> x.house(4), x -> x.house(9), x -> x.isSound(), x -> x.digest()};

    /** Calls that throw, of each method that can, for each of its reasons. */
    private static final Edges.Step[] REFUSED = {x -> x.members(0), x -> x.members(7), x -> x.weight(4, 1),
        x -> x.weight(0, 100), x -> x.weight(-1, 1), x -> x.like(0, 4, 1), x -> x.like(-1, 0, 1), x -> x.like(0, 0, 1),
        x -> x.like(0, 1, 10), x -> x.quarrel(0, 4, true), x -> x.quarrel(2, 2, true), x -> x.quota(4, 1, 0),
        x -> x.quota(0, 0, 0), x -> x.quota(0, 1000, 0), x -> x.quota(0, 999, -1), x -> x.quota(0, 999, 7),
        x -> x.none(4), x -> x.none(-1), x -> x.list(0, 0), x -> x.list(0, 16), x -> x.list(4, 1),
        x -> x.join(0, 4, 0, true), x -> x.join(0, 1, 4, true), x -> x.join(-1, 1, 0, false), x -> x.dual(1, 4),
        x -> x.dual(4, 1), x -> x.bloc(1, 0, 2), x -> x.bloc(1, 16, 2), x -> x.bloc(1, 1, 4), x -> x.within(1, 4, 1, 2),
        x -> x.within(1, 0, 4, 2), x -> x.within(1, 0, 1, -1), x -> x.within(4, 0, 1, 2), x -> x.veto(1, 4),
        x -> x.veto(-1, 0), x -> x.make(0, -1), x -> x.make(4, 0), x -> x.parties(0), x -> x.parties(7),
        x -> x.votes(4, 1), x -> x.votes(0, 10000), x -> x.votes(0, -1), x -> x.minimum(4, 1), x -> x.minimum(0, 10),
        x -> x.bar(51), x -> x.bar(-1), x -> x.wins(0, 16), x -> x.ofBody(0, 9), x -> x.least(4, true),
        x -> x.swings(0, 4, true), x -> x.power(0, 0, 5), x -> x.turner(0, -1), x -> x.same(0, 4),
        x -> x.areAlike(0, 0, 4), x -> x.weights(4), x -> x.trade(4), x -> x.best(4), x -> x.held(4),
        x -> x.seats(0, 6, 0), x -> x.all(0, 41), x -> x.range(5, 0), x -> x.odd(6), x -> x.merged(0, 9, 1, 1),
        x -> x.moved(0, 9, 0, 1, -1), x -> x.missed(0, -1), x -> x.more(0, 0, 41), x -> x.share(4, 0),
        x -> x.house(11)};

    private CallEdges() {
    }

    static void run() {
        opening();
        newObject();
        undoing();
        houses();
        knocking();
        sound();
        digesting();
    }

    private static void opening() {
        Edges.sentence("What it is", "An object is used for at most 512 calls after it has been made;",
                CallEdges::fiveHundredAndTwelveCalls);
        String part = "Description";
        Edges.sentence(part, "Whole numbers. NONE is -1.", CallEdges::noneIsMinusOne);
        Edges.sentence(part, "GROUPS are sets of MEMBERS: the sum of 2^k for each k in it.", CallEdges::groupsAreSums);
        Edges.sentence(part, "Fractions are in lowest terms;", CallEdges::lowestTerms);
        Edges.sentence(part, "their text is the top, and, if the bottom is not 1, \"/\" and the bottom.",
                CallEdges::fractionTexts);
        Edges.sentence(part, "/ between whole numbers, where no fraction is told, is rounded down.",
                CallEdges::roundedDown);
        Edges.sentence(part, "X by X is by rising numbers;", CallEdges::risingNumbers);
        Edges.sentence(part, "where one of several is taken and nothing else is said, it is that with the smallest number.",
                CallEdges::smallestNumber);
        Edges.sentence(part, "Some calls are LET, but can not be done: they tell -8 or -9, and change nothing.",
                CallEdges::letButNotDone);
        Edges.sentence(part, "What one asks for changes nothing.", CallEdges::askingChangesNothing);
        Edges.sentence(part, "A method that throws an exception changes nothing.", CallEdges::throwingChangesNothing);
        Edges.sentence(part, "exceptions go ahead of -8 and -9.", CallEdges::exceptionsAhead);
    }

    private static void fiveHundredAndTwelveCalls() {
        Seatpower x = new Seatpower();
        for (int call = 1; call < Edges.MOST_CALLS; call++) {
            x.knock();
        }
        Edges.due(512, () -> x.knock());
        Seatpower y = new Seatpower();
        for (int call = 1; call <= 501; call++) {
            y.weight(0, call % 100);
        }
        for (int left = 9; left >= 0; left--) {
            int due = left;
            Edges.due(due, () -> y.undo());
        }
        Edges.due(93, () -> y.house(1));
        Seatpower z = Edges.made(Edges.MANY);
        long due = z.digest();
        for (int call = Edges.MANY.length + 2; call < Edges.MOST_CALLS; call++) {
            ASKING[call % (ASKING.length - 1)].of(z);
        }
        Edges.due(due, () -> z.digest());
    }

    private static void noneIsMinusOne() {
        Edges.due(-1, () -> Edges.listed(3, 3, 5, 6).ofBody(0, 4));
        Edges.due(-1, () -> Edges.listed(5, 1).ofBody(0, 8));
        Edges.due(-1, () -> new Seatpower().turner(0, 0));
        Edges.due(-1, () -> Edges.council(0).best(0));
        Edges.due(-1, () -> new Seatpower().held(0));
        Edges.due(-1, () -> Edges.poll(1, 1).more(0, 0, 0));
    }

    private static void groupsAreSums() {
        for (int member = 0; member < 6; member++) {
            int group = 1 << member;
            Seatpower x = Edges.listed(6, group);
            Edges.due("" + group, () -> x.least(0, false));
            Edges.due(group, () -> x.ofBody(0, 5));
            Edges.due(63 - group, () -> x.ofBody(0, 6));
            Edges.due(true, () -> x.wins(0, group));
            Edges.due(false, () -> x.wins(0, 63 - group));
            Edges.due(group, () -> x.held(0));
        }
        Edges.due("41", () -> Edges.listed(6, 1 + 8 + 32).least(0, false));
    }

    private static void lowestTerms() {
        Edges.due("1/2", () -> Edges.listed(2, 3).power(0, 0, 0));
        Edges.due("1/2", () -> Edges.listed(3, 3, 5, 6).power(0, 0, 1));
        Edges.due("1/6", () -> Edges.listed(6, 63).power(0, 0, 2));
        Edges.due("5/4", () -> Edges.poll(10, 30).share(0, 5));
        Edges.due("19998..-", () -> Edges.poll(9999).range(1, 0));
        Edges.due("99980001/1640..33326667/520", () -> Edges.poll(9999).range(3, 40));
    }

    private static void fractionTexts() {
        Edges.due("1", () -> Edges.listed(2, 1).power(0, 0, 0));
        Edges.due("0", () -> Edges.listed(2, 1).power(0, 1, 0));
        Edges.due("0", () -> new Seatpower().power(0, 1, 3));
        Edges.due("3", () -> Edges.poll(60, 30, 10).share(0, 5));
        Edges.due("3/2", () -> Edges.poll(60, 30, 10).share(1, 5));
        Edges.due("0", () -> Edges.poll(60, 30, 10).share(1, 0));
        Edges.due("40", () -> Edges.poll(9999).share(0, 40));
        Edges.due("5..15/2", () -> Edges.poll(15).range(0, 2));
    }

    private static void roundedDown() {
        // 5 * 99 / 100 is 4 and 5 * 1 / 100 is 0: the seat that is left goes by the rest.
        Edges.due("5 0", () -> Edges.poll(99, 1).all(5, 5));
        Edges.due("2 2 1", () -> Edges.poll(1, 1, 1).all(5, 5));
        // 5 / 3 is 1 and 1 / 2 is 0: the members 2, 1, 0 come.
        Edges.due(0, () -> Edges.listed(3, 7).turner(0, 5));
    }

    private static void risingNumbers() {
        Edges.due("1 6 10 12", () -> Edges.listed(4, 12, 10, 6, 1).least(0, false));
        Edges.due("7 11 13", () -> Edges.listed(4, 12, 10, 6, 1).least(0, true));
        Edges.due("1 2 3 4 5 6", () -> Edges.poll(10, 20, 30, 40, 50, 60).all(5, 21));
        Edges.due("3:0 1 1 2", () -> Edges.listed(4, 8 + 2, 8 + 4).weights(0));
    }

    private static void smallestNumber() {
        Edges.due("1 0 0", () -> Edges.poll(7, 7, 7).all(0, 1));
        Edges.due("1 1 0", () -> Edges.poll(7, 7, 7).all(1, 2));
        Edges.due("3 2 2", () -> Edges.poll(7, 7, 7).all(5, 7));
        Edges.due(3, () -> Edges.listed(3, 3, 5, 6).held(0));
        Edges.due(2, () -> Edges.council(1, 1, 1).best(1));
        Edges.due("3:2", () -> Edges.poll(6, 6, 2).odd(5));
    }

    private static void letButNotDone() {
        for (Edges.Step[] start : new Edges.Step[][] {Edges.FEW, Edges.MANY}) {
            Edges.due(-8, () -> Edges.made(start).quota(1, 1, 0));
            Edges.due(-8, () -> Edges.made(start).dual(3, 1));
            Edges.due(-9, () -> Edges.made(start).make(1, 167));
            Edges.due(-9, () -> Edges.made(start).make(1, Edges.HIGH));
            Edges.due("!", () -> Edges.made(Edges.both(start, x -> x.votes(0, 99), x -> x.minimum(0, 9))).all(0, 8));
        }
        Edges.unchanged(x -> x.quota(1, 1, 0));
        Edges.unchanged(x -> x.dual(3, 1));
        Edges.unchanged(x -> x.make(1, 167));
        Edges.unchanged(x -> x.make(1, Edges.HIGH));
        Edges.Step[] five = {x -> x.members(5), x -> x.list(2, 31)};
        Edges.due(-9, () -> Edges.made(five).make(2, 0));
        Edges.due(Edges.history(five), () -> Edges.history(Edges.both(five, x -> x.make(2, 0))));
        Edges.Step[] full = {x -> x.votes(1, 1), x -> x.minimum(1, 9)};
        for (int method = 0; method <= 5; method++) {
            int asked = method;
            Edges.due(-8, () -> Edges.made(full).seats(1, asked, 8));
            Edges.due(Edges.history(full), () -> Edges.history(Edges.both(full, x -> x.seats(1, asked, 8),
                    x -> x.all(asked, 8), x -> x.missed(asked, 8), x -> x.more(1, asked, 8))));
        }
    }

    private static void askingChangesNothing() {
        for (Edges.Ask ask : ASKING) {
            Edges.unchanged(x -> ask.of(x));
        }
        Edges.unchanged(CallEdges::askAll);
        for (Edges.Step[] start : new Edges.Step[][] {Edges.FEW, Edges.MANY}) {
            for (Edges.Ask ask : ASKING) {
                Object due = ask.of(Edges.made(start));
                Edges.due(due, () -> {
                    Seatpower x = Edges.made(start);
                    askAll(x);
                    return ask.of(x);
                });
                Edges.due(due, () -> {
                    Seatpower x = Edges.made(start);
                    ask.of(x);
                    return ask.of(x);
                });
            }
        }
    }

    private static void askAll(Seatpower x) {
        for (Edges.Ask ask : ASKING) {
            ask.of(x);
        }
    }

    private static void throwingChangesNothing() {
        for (Edges.Step call : REFUSED) {
            Edges.due(Edges.history(Edges.MANY), () -> Edges.history(Edges.both(Edges.MANY, Edges.refused(call))));
        }
        Edges.Step[] all = new Edges.Step[REFUSED.length];
        for (int place = 0; place < all.length; place++) {
            all[place] = Edges.refused(REFUSED[place]);
        }
        Edges.due(Edges.history(Edges.MANY), () -> Edges.history(Edges.both(Edges.MANY, all)));
        Edges.due("3 3 0", () -> {
            Seatpower x = new Seatpower();
            Edges.refused(y -> y.undo()).on(x);
            return x.house(0) + " " + x.house(3) + " " + x.house(9);
        });
    }

    private static void exceptionsAhead() {
        Seatpower x = new Seatpower();
        Edges.due(-8, () -> x.quota(0, 1, 0));
        Edges.due(Edges.INDEX, () -> x.quota(4, 1, 0));
        Edges.due(Edges.ARGUMENT, () -> x.quota(0, 1, 7));
        Edges.due(Edges.ARGUMENT, () -> x.quota(0, 0, 0));
        Edges.due(-8, () -> x.dual(0, 1));
        Edges.due(Edges.INDEX, () -> x.dual(0, 4));
        Edges.due(Edges.INDEX, () -> x.dual(4, 0));
        Edges.due(-9, () -> x.make(0, 19));
        Edges.due(Edges.INDEX, () -> x.make(4, 19));
        x.members(5);
        Edges.due(-9, () -> x.make(0, 0));
        Edges.due(Edges.ARGUMENT, () -> x.make(0, -1));
        Edges.due(Edges.INDEX, () -> x.make(-1, 0));
        x.votes(0, 1);
        x.minimum(0, 9);
        Edges.due(-8, () -> x.seats(0, 0, 0));
        Edges.due(Edges.INDEX, () -> x.seats(3, 0, 0));
        Edges.due(Edges.ARGUMENT, () -> x.seats(0, 6, 0));
        Edges.due(Edges.ARGUMENT, () -> x.seats(0, 0, -1));
        Edges.due(Edges.ARGUMENT, () -> x.all(6, 0));
        Edges.due(Edges.ARGUMENT, () -> x.range(5, 0));
        Edges.due(Edges.ARGUMENT, () -> x.merged(0, 0, 1, 1));
        Edges.due(Edges.ARGUMENT, () -> x.moved(0, 0, 0, 1, -1));
        Edges.due(-8, () -> x.missed(0, 0));
        Edges.due(Edges.ARGUMENT, () -> x.missed(6, 0));
        Edges.due(-8, () -> x.more(0, 0, 0));
        Edges.due(Edges.INDEX, () -> x.more(-1, 0, 0));
        Edges.due(Edges.ARGUMENT, () -> x.more(0, -1, 0));
    }

    private static void newObject() {
        Edges.sentence("Promise 1", "Creates a council of three members with weight 1,", () -> {
            Edges.due(3, () -> new Seatpower().house(0));
            Edges.due(3, () -> new Seatpower().house(1));
            for (int member = 0; member < 3; member++) {
                int asked = member;
                Edges.due(1, () -> new Seatpower().weight(asked, 9));
            }
            Edges.due(0, () -> new Seatpower().house(2));
        });
        Edges.sentence("Promise 1", "without winners,", () -> {
            for (int body = 0; body < 4; body++) {
                int asked = body;
                Edges.due("[]", () -> Edges.winners(new Seatpower(), asked).toString());
            }
        });
        Edges.sentence("Promise 1", "and three parties without votes.", () -> {
            Edges.due(3, () -> new Seatpower().house(3));
            Edges.due(0, () -> new Seatpower().house(4));
            Edges.due("0 0 0", () -> new Seatpower().all(2, 40));
            Edges.due("0 0 0", () -> {
                Seatpower x = new Seatpower();
                return x.votes(0, 1) + " " + x.votes(1, 1) + " " + x.votes(2, 1);
            });
        });
    }

    private static void undoing() {
        String part = "Promise 31";
        Edges.sentence(part, "The last of the calls ahead (of members() to make(), parties() to bar(),",
                CallEdges::eachCallIsUndone);
        Edges.sentence(part, "if it was done, so not -8 or -9) is undone:", CallEdges::onlyDoneCallsAreUndone);
        Edges.sentence(part, "all is as ahead of it (but how often one knocked).", CallEdges::allIsAsAhead);
        Edges.sentence(part, "The last 10 can be undone.", CallEdges::lastTenCanBeUndone);
        Edges.sentence(part, "Returns how many can be undone then.", CallEdges::undoTellsHowMany);
        Edges.sentence(part, "Throws `IllegalStateException` if none can be undone", CallEdges::nothingToUndo);
    }

    private static void eachCallIsUndone() {
        for (Edges.Step call : Edges.both(TELLING, IDLE)) {
            Edges.Step[] start = Arrays.copyOf(Edges.MANY, 9);
            Edges.due(9, () -> Edges.made(start).house(9));
            Edges.due(10, () -> Edges.made(Edges.both(start, call)).house(9));
            Edges.due(Edges.history(start), () -> Edges.history(Edges.both(start, call, x -> x.undo())));
        }
        for (Edges.Step call : Edges.both(TELLING, IDLE)) {
            List<String> ahead = Edges.history(Edges.MANY);
            List<String> then = Edges.history(Edges.both(Edges.MANY, call));
            // Of a full past the oldest call is lost, and the last one but one is the first that ahead could be undone.
            for (int undone = 1; undone <= 10; undone++) {
                int place = undone;
                Edges.due(Edges.withoutPast(ahead.get(place - 1)), () -> Edges.withoutPast(then.get(place)));
            }
        }
    }

    private static void onlyDoneCallsAreUndone() {
        Seatpower x = new Seatpower();
        x.weight(1, 8);
        x.list(0, 7);
        Edges.due(-8, () -> x.quota(0, 1, 0));
        Edges.due(-8, () -> x.dual(1, 0));
        Edges.due(-9, () -> x.make(0, 19));
        Edges.due(Edges.ARGUMENT, () -> x.weight(1, 100));
        Edges.due("7", () -> x.least(0, false));
        Edges.due(2, () -> x.house(9));
        Edges.due(1, () -> x.undo());
        Edges.due("", () -> x.least(0, false));
        Edges.due(0, () -> x.undo());
        Edges.due(3, () -> x.house(1));
        Edges.due(Edges.STATE, () -> x.undo());
    }

    private static void allIsAsAhead() {
        Seatpower x = new Seatpower();
        x.knock();
        x.members(6);
        x.knock();
        x.bar(3);
        x.knock();
        Edges.due(1, () -> x.undo());
        Edges.due(3, () -> x.house(10));
        Edges.due(0, () -> x.house(8));
        Edges.due(0, () -> x.undo());
        Edges.due(3, () -> x.house(0));
        Edges.due(4, () -> x.knock());
        // members() wipes all of a council and parties() all of a poll: undo() brings all of it back.
        for (Edges.Step wipe : List.<Edges.Step>of(y -> y.members(4), y -> y.members(2), y -> y.parties(4),
                y -> y.parties(1))) {
            Edges.due(Edges.withoutPast(Edges.held(Edges.made(Edges.MANY))), () -> Edges.withoutPast(
                    Edges.held(Edges.made(Edges.both(Edges.MANY, wipe, y -> y.undo())))));
        }
    }

    private static void lastTenCanBeUndone() {
        for (int many : new int[] {1, 9, 10, 11, 12, 20, 21, 99}) {
            Seatpower x = new Seatpower();
            for (int weight = 1; weight <= many; weight++) {
                x.weight(2, weight);
            }
            int most = Math.min(10, many);
            Edges.due(most, () -> x.house(9));
            for (int undone = 1; undone <= most; undone++) {
                int before = Math.max(1, many - undone);
                x.undo();
                Edges.due(2 + before, () -> x.house(1));
            }
            Edges.due(Edges.STATE, () -> x.undo());
        }
        undoneAndToldAgain();
    }

    /** The past is a row of weights here: undo() takes the last one, and nothing brings it back. */
    private static void undoneAndToldAgain() {
        for (int run = 0; run < 20; run++) {
            Random random = new Random(run);
            Seatpower x = new Seatpower();
            Deque<Integer> past = new ArrayDeque<>();
            int weight = 1;
            for (int call = 0; call < 160; call++) {
                if (random.nextInt(100) < 45 && !past.isEmpty()) {
                    weight = past.pop();
                    Edges.due(past.size(), () -> x.undo());
                } else {
                    past.push(weight);
                    if (past.size() > 10) {
                        past.removeLast();
                    }
                    weight = random.nextInt(100);
                    x.weight(0, weight);
                }
                int due = weight + 2;
                Edges.due(due, () -> x.house(1));
            }
        }
    }

    private static void undoTellsHowMany() {
        Seatpower x = new Seatpower();
        for (int percent = 0; percent < 15; percent++) {
            x.bar(percent);
        }
        for (int left = 9; left >= 0; left--) {
            int due = left;
            Edges.due(due, () -> x.undo());
            Edges.due(due, () -> x.house(9));
        }
        Edges.due(0, () -> {
            x.votes(0, 1);
            return x.undo();
        });
    }

    private static void nothingToUndo() {
        Seatpower x = new Seatpower();
        Edges.due(Edges.STATE, () -> x.undo());
        x.knock();
        x.quota(0, 1, 0);
        x.digest();
        Edges.due(Edges.STATE, () -> x.undo());
        x.weight(0, 5);
        x.undo();
        Edges.due(Edges.STATE, () -> x.undo());
        Edges.due(Edges.STATE, () -> x.undo());
        Edges.due(3, () -> x.house(1));
        Edges.due(1, () -> x.house(10));
    }

    private static void houses() {
        String part = "Promise 41";
        Edges.sentence(part, "0 MEMBERS,", () -> {
            for (int many = 1; many <= 6; many++) {
                int due = many;
                Edges.due(due, () -> Edges.made(x -> x.members(due)).house(0));
            }
        });
        Edges.sentence(part, "1 all WEIGHTS together,", () -> {
            Edges.due(594, () -> Edges.council(99, 99, 99, 99, 99, 99).house(1));
            Edges.due(0, () -> Edges.council(0).house(1));
            Edges.due(21, () -> Edges.council(1, 2, 3, 4, 5, 6).house(1));
        });
        Edges.sentence(part, "2 QUARRELS,", () -> {
            Seatpower x = Edges.council(1, 1, 1, 1, 1, 1);
            int many = 0;
            for (int a = 0; a < 6; a++) {
                for (int b = 0; b < a; b++) {
                    Edges.due(many, () -> x.house(2));
                    x.quarrel(a, b, true);
                    x.quarrel(b, a, true);
                    many++;
                }
            }
            Edges.due(15, () -> x.house(2));
        });
        Edges.sentence(part, "3 PARTIES,", () -> {
            for (int many = 1; many <= 6; many++) {
                int due = many;
                Edges.due(due, () -> Edges.made(x -> x.parties(due)).house(3));
            }
        });
        Edges.sentence(part, "4 all votes,", () -> {
            Edges.due(59994, () -> Edges.poll(9999, 9999, 9999, 9999, 9999, 9999).house(4));
            Edges.due(110, () -> Edges.made(x -> x.votes(0, 100), x -> x.votes(2, 10), x -> x.bar(50)).house(4));
            Edges.due(0, () -> new Seatpower().house(4));
        });
        houseOfThoseIn();
        Edges.sentence(part, "Returns that.", () -> {
            int[] due = {4, 17, 2, 4, 100, 100, 3, 2, 7, 10, 2};
            for (int what = 0; what <= 10; what++) {
                int asked = what;
                Edges.due(due[what], () -> Edges.made(Edges.MANY).house(asked));
            }
        });
    }

    private static void houseOfThoseIn() {
        String part = "Promise 41";
        Edges.Step[] poll = {x -> x.votes(0, 90), x -> x.votes(1, 10), x -> x.minimum(0, 2), x -> x.minimum(1, 3),
            x -> x.minimum(2, 9)};
        Edges.sentence(part, "5 TOTAL,", () -> {
            Edges.due(100, () -> Edges.made(Edges.both(poll, x -> x.bar(10))).house(5));
            Edges.due(90, () -> Edges.made(Edges.both(poll, x -> x.bar(11))).house(5));
            Edges.due(0, () -> new Seatpower().house(5));
            Edges.due(0, () -> Edges.made(x -> x.bar(50), x -> x.votes(0, 1), x -> x.votes(1, 1), x -> x.votes(2, 1))
                    .house(5));
        });
        Edges.sentence(part, "6 PARTIES that are IN,", () -> {
            Edges.due(2, () -> Edges.made(Edges.both(poll, x -> x.bar(10))).house(6));
            Edges.due(1, () -> Edges.made(Edges.both(poll, x -> x.bar(11))).house(6));
            Edges.due(0, () -> new Seatpower().house(6));
            Edges.due(6, () -> Edges.poll(1, 1, 1, 1, 1, 1).house(6));
        });
        Edges.sentence(part, "7 all MINIMA of those,", () -> {
            Edges.due(5, () -> Edges.made(Edges.both(poll, x -> x.bar(10))).house(7));
            Edges.due(2, () -> Edges.made(Edges.both(poll, x -> x.bar(11))).house(7));
            Edges.due(0, () -> Edges.made(x -> x.minimum(0, 9)).house(7));
        });
        Edges.sentence(part, "8 BAR,", () -> {
            Edges.due(0, () -> new Seatpower().house(8));
            Edges.due(50, () -> Edges.made(x -> x.bar(50)).house(8));
        });
        Edges.sentence(part, "9 how many can be undone,", () -> {
            Seatpower x = new Seatpower();
            for (int call = 0; call < 14; call++) {
                int due = Math.min(10, call);
                Edges.due(due, () -> x.house(9));
                x.bar(call);
            }
        });
        Edges.sentence(part, "10 how often one knocked", () -> {
            Edges.due(0, () -> new Seatpower().house(10));
            Edges.due(3, () -> Edges.made(x -> x.knock(), x -> x.bar(1), x -> x.knock(), x -> x.undo(), x -> x.knock())
                    .house(10));
        });
    }

    private static void knocking() {
        Edges.sentence("Promise 42", "Knocks.", () -> {
            Seatpower x = Edges.made(Edges.FEW);
            Edges.due(2, () -> x.knock());
            Edges.due(2, () -> x.house(10));
            Edges.due(3, () -> x.house(9));
        });
        Edges.sentence("Promise 42", "Returns how often one knocked, with this.", () -> {
            Seatpower x = new Seatpower();
            for (int knock = 1; knock <= 300; knock++) {
                int due = knock;
                Edges.due(due, () -> x.knock());
            }
            // One object's knocks are not another's.
            Edges.due(1, () -> new Seatpower().knock());
        });
    }

    /** All that isSound() tells is so after any calls: it is true where a mistake in one of its parts would show. */
    private static void sound() {
        String part = "Promise 43";
        Edges.sentence(part, "Returns whether all of this is so: who has a GROUP in it that WINS, WINS, too,"
                + " and the empty one does not;", () -> {
                    Edges.due(true, () -> new Seatpower().isSound());
                    Edges.due(true, () -> Edges.listed(6, 1, 62).isSound());
                    Edges.due(true, () -> Edges.listed(1, 1).isSound());
                    Edges.due(true, () -> Edges.made(Edges.MANY).isSound());
                });
        Edges.sentence(part, "POWERS by ORDERS of each BODY add up to 1, if some GROUP WINS,", () -> {
            Edges.due(true, () -> Edges.listed(4, 3, 12).isSound());
            Edges.due(true, () -> Edges.made(x -> x.list(3, 7)).isSound());
        });
        Edges.sentence(part, "and those of the BODIES 0 and 1 to those of both joined by AND and by OR;", () -> {
            Edges.due(true, () -> Edges.made(x -> x.list(0, 1), x -> x.list(1, 6)).isSound());
            Edges.due(true, () -> Edges.made(x -> x.list(1, 6)).isSound());
        });
        Edges.sentence(part, "of a BODY and of its DUAL (if some GROUP WINS) each MEMBER has as many SWINGS;",
                () -> Edges.due(true, () -> Edges.made(x -> x.members(6), x -> x.list(2, 63), x -> x.list(3, 7))
                        .isSound()));
        Edges.sentence(part, "if weights() tells WEIGHTS of a BODY, they make it by the QUOTA that it tells"
                + " (with HEADS 0), and it has no TRADE;", () -> {
                    Edges.due(true, () -> Edges.listed(5, 3, 12).isSound());
                    Edges.due(true, () -> Edges.listed(5, 3, 5, 30).isSound());
                });
        Edges.sentence(part, "and by the METHODS 0 to 4 no HOUSE of 0 to 12 is ODD"
                + " (one for which it can not be done is left out).", () -> {
                    // By METHOD 5 the HOUSE of 3 is ODD; by the others a HOUSE of up to 12 can not be done in the last.
                    Edges.due(true, () -> Edges.poll(6, 6, 2).isSound());
                    Edges.due(true, () -> Edges.made(x -> x.votes(0, 6), x -> x.votes(1, 5), x -> x.votes(2, 2),
                            x -> x.minimum(0, 4), x -> x.minimum(2, 9)).isSound());
                });
    }

    private static void digesting() {
        String part = "Promise 44";
        for (String quote : List.of("Computes a checksum.", "A number d starts with 6502;",
                "then d becomes d * 31 + v, which wraps around as a 64-bit integer, for each v in this order:",
                "house() of 0 to 10;", "BODY by BODY ofBody() of 0 to 8,",
                "the number of signs of least() of LEAST ones and of LEAST BLOCKING ones,", "of weights() and of trade(),",
                "held(),", "turner() of 0 to 5,",
                "MEMBER by MEMBER swings(), all and FREE, and the number of signs of power() of 0 to 4;",
                "MEMBER by MEMBER best();",
                "METHOD by METHOD the number of signs of all() and missed(), each with HOUSES of 0, 7, 14 and 21,"
                        + " and of odd();",
                "METHOD by METHOD from 0 to 4 the number of signs of range() with 7;",
                "PARTY by PARTY the number of signs of share() with 7, more() of the METHODS 0 and 5 with 7;",
                "1 if isSound(), otherwise 0.", "Returns d.")) {
            Edges.sentence(part, quote, CallEdges::digestsAgree);
        }
    }

    private static void digestsAgree() {
        Edges.Step[] six = {x -> x.members(6), x -> x.weight(2, 9), x -> x.list(0, 35), x -> x.list(3, 12),
            x -> x.list(3, 48), x -> x.quarrel(0, 1, true), x -> x.parties(6), x -> x.votes(0, 997), x -> x.votes(1, 551),
            x -> x.votes(3, 401), x -> x.votes(5, 13), x -> x.minimum(3, 4), x -> x.minimum(5, 4), x -> x.knock()};
        Edges.Step[] one = {x -> x.members(1), x -> x.parties(1), x -> x.list(2, 1), x -> x.votes(0, 3)};
        Edges.Step[] odd = {x -> x.votes(0, 6), x -> x.votes(1, 6), x -> x.votes(2, 2), x -> x.members(5),
            x -> x.list(0, 3), x -> x.list(0, 12), x -> x.quota(1, 3, 0), x -> x.like(0, 1, 0)};
        for (Edges.Step[] start : new Edges.Step[][] {{}, Edges.FEW, Edges.MANY, six, one, odd}) {
            Edges.due(digestOf(Edges.made(start)), () -> Edges.made(start).digest());
        }
    }

    /** The digest of an object by what it answers to the other calls. */
    private static long digestOf(Seatpower x) {
        Sum sum = new Sum();
        for (int what = 0; what <= 10; what++) {
            sum.add(x.house(what));
        }
        int members = x.house(0);
        int parties = x.house(3);
        for (int body = 0; body < 4; body++) {
            addBody(sum, x, body, members);
        }
        for (int member = 0; member < members; member++) {
            sum.add(x.best(member));
        }
        for (int method = 0; method <= 5; method++) {
            for (int house : new int[] {0, 7, 14, 21}) {
                sum.add(x.all(method, house).length());
                sum.add(x.missed(method, house));
            }
            sum.add(x.odd(method).length());
        }
        for (int method = 0; method <= 4; method++) {
            sum.add(x.range(method, 7).length());
        }
        for (int party = 0; party < parties; party++) {
            sum.add(x.share(party, 7).length());
            sum.add(x.more(party, 0, 7));
            sum.add(x.more(party, 5, 7));
        }
        sum.add(x.isSound() ? 1 : 0);
        return sum.d.longValue();
    }

    private static void addBody(Sum sum, Seatpower x, int body, int members) {
        for (int what = 0; what <= 8; what++) {
            sum.add(x.ofBody(body, what));
        }
        sum.add(x.least(body, false).length());
        sum.add(x.least(body, true).length());
        sum.add(x.weights(body).length());
        sum.add(x.trade(body).length());
        sum.add(x.held(body));
        for (int order = 0; order <= 5; order++) {
            sum.add(x.turner(body, order));
        }
        for (int member = 0; member < members; member++) {
            sum.add(x.swings(body, member, false));
            sum.add(x.swings(body, member, true));
            for (int kind = 0; kind <= 4; kind++) {
                sum.add(x.power(body, member, kind).length());
            }
        }
    }

    /** A digest without a bound: only its last 64 bits are asked for. */
    private static final class Sum {
        private BigInteger d = BigInteger.valueOf(6502);

        void add(long v) {
            d = d.multiply(BigInteger.valueOf(31)).add(BigInteger.valueOf(v));
        }
    }
}
