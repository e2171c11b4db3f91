/** Part 3 of the document, and the calls that tell of parties or ask for seats. */
final class SeatEdges {
    private static final int[] METHODS = {0, 1, 2, 3, 4, 5};

    /** Whether a party with so many votes and seats has a quotient above that of another one, or the same one. */
    private interface Rule {
        boolean isAtLeast(long votes, long seats, long otherVotes, long otherSeats);
    }

    private SeatEdges() {
    }

    static void run() {
        partiesOfPartThree();
        housesOfPartThree();
        methodsOfPartThree();
        rangesOfPartThree();
        telling();
        askingForSeats();
        askingForRanges();
        askingForOthers();
        askingForMore();
    }

    private static void partiesOfPartThree() {
        Edges.sentence("3", "PARTIES: 1 to 6 (3 at first), numbered from 0,", SeatEdges::oneToSixParties);
        Edges.sentence("3", "each with votes (0 to 9999; 0 at first)", SeatEdges::votesOfParties);
        Edges.sentence("3", "and a MINIMUM (0 to 9; 0 at first).", SeatEdges::minimaOfParties);
        Edges.sentence("3", "BAR: 0 to 50 (0 at first).", SeatEdges::barOfZeroToFifty);
        Edges.sentence("3", "A PARTY is IN, if it has a vote,", () -> {
            Edges.due(0, () -> new Seatpower().house(6));
            Edges.due(1, () -> Edges.poll(0, 1, 0).house(6));
            Edges.due("0 40 0", () -> Edges.poll(0, 1, 0).all(2, 40));
            Edges.due("-", () -> Edges.poll(0, 1, 0).share(0, 5));
            Edges.due(2, () -> Edges.poll(1, 0, 9999).house(6));
        });
        Edges.sentence("3", "and a hundred times its votes are BAR times all votes or more.", SeatEdges::atTheBar);
        Edges.sentence("3", "TOTAL: the votes of those that are IN.", () -> {
            Edges.due(100, () -> barred(10, 60, 30, 10).house(5));
            Edges.due(90, () -> barred(11, 60, 30, 10).house(5));
            Edges.due(60, () -> barred(31, 60, 30, 10).house(5));
            Edges.due(0, () -> barred(50, 1, 1, 1).house(5));
            Edges.due("40/3", () -> barred(11, 60, 30, 10).share(1, 40));
        });
    }

    private static Seatpower barred(int bar, int... votes) {
        Seatpower x = Edges.poll(votes);
        x.bar(bar);
        return x;
    }

    private static void oneToSixParties() {
        Edges.due(3, () -> new Seatpower().house(3));
        for (int parties = 1; parties <= 6; parties++) {
            int many = parties;
            Seatpower x = new Seatpower();
            Edges.due(3, () -> x.parties(many));
            Edges.due(many, () -> x.house(3));
            Edges.due(0, () -> x.votes(0, 1));
            Edges.due(many == 1 ? 1 : 0, () -> x.votes(many - 1, 1));
            Edges.due(Edges.INDEX, () -> x.votes(many, 1));
            Edges.due(Edges.INDEX, () -> x.votes(-1, 1));
            Edges.due(many, () -> x.all(5, 40).split(" ").length);
        }
        Edges.due(Edges.ARGUMENT, () -> new Seatpower().parties(0));
        Edges.due(Edges.ARGUMENT, () -> new Seatpower().parties(7));
    }

    private static void votesOfParties() {
        for (int parties = 1; parties <= 6; parties++) {
            Seatpower x = Edges.made(y -> y.parties(6));
            x.parties(parties);
            for (int party = 0; party < parties; party++) {
                int one = party;
                Edges.due(0, () -> x.votes(one, 9999));
                Edges.due(9999, () -> x.votes(one, 0));
                Edges.due(0, () -> x.votes(one, 500 + one));
                Edges.due(Edges.ARGUMENT, () -> x.votes(one, 10000));
                Edges.due(Edges.ARGUMENT, () -> x.votes(one, -1));
            }
            for (int party = 0; party < parties; party++) {
                int one = party;
                Edges.due(500 + one, () -> x.votes(one, 0));
            }
        }
        Edges.due("7 7 7 7 6 6", () -> Edges.poll(9999, 9999, 9999, 9999, 9999, 9999).all(5, 40));
    }

    private static void minimaOfParties() {
        Seatpower x = Edges.poll(1, 1, 1, 1, 1, 1);
        for (int party = 0; party < 6; party++) {
            int one = party;
            Edges.due(0, () -> x.minimum(one, 9));
            Edges.due(9, () -> x.minimum(one, 0));
            Edges.due(0, () -> x.minimum(one, one + 1));
            Edges.due(Edges.ARGUMENT, () -> x.minimum(one, 10));
            Edges.due(Edges.ARGUMENT, () -> x.minimum(one, -1));
        }
        Edges.due(21, () -> x.house(7));
        Edges.due("1 2 3 4 5 6", () -> x.all(3, 21));
        Edges.due(6, () -> x.minimum(5, 0));
    }

    private static void barOfZeroToFifty() {
        Seatpower x = new Seatpower();
        Edges.due(0, () -> x.bar(50));
        Edges.due(50, () -> x.bar(0));
        Edges.due(0, () -> x.bar(1));
        Edges.due(1, () -> x.bar(49));
        Edges.due(49, () -> x.bar(49));
        Edges.due(Edges.ARGUMENT, () -> x.bar(51));
        Edges.due(Edges.ARGUMENT, () -> x.bar(-1));
        Edges.due(49, () -> x.house(8));
    }

    private static void atTheBar() {
        Edges.due(3, () -> barred(10, 60, 30, 10).house(6));
        Edges.due(2, () -> barred(11, 60, 30, 10).house(6));
        Edges.due(2, () -> barred(50, 1, 1).house(6));
        Edges.due(1, () -> barred(50, 9999, 9998).house(6));
        Edges.due(3, () -> barred(33, 1, 1, 1).house(6));
        Edges.due(0, () -> barred(34, 1, 1, 1).house(6));
        Edges.due(2, () -> barred(1, 9900, 100).house(6));
        Edges.due(1, () -> barred(1, 9901, 100).house(6));
        Edges.due(6, () -> barred(0, 9999, 9999, 9999, 9999, 9999, 1).house(6));
        Edges.due(0, () -> barred(50, 0, 0).house(6));
        // The votes of those that are not in are votes, too.
        Edges.due(1, () -> barred(11, 81, 10).house(6));
        Edges.due(2, () -> barred(10, 81, 10).house(6));
        Edges.due(1, () -> barred(20, 60, 19, 10, 10, 1).house(6));
    }

    private static void housesOfPartThree() {
        Edges.sentence("3", "A HOUSE has 0 to 40 seats.", () -> {
            for (int method : METHODS) {
                Edges.due("0 0 0", () -> Edges.poll(5, 5, 5).all(method, 0));
                Edges.due("40", () -> Edges.poll(1).all(method, 40));
                Edges.due("20 20", () -> Edges.poll(7, 7).all(method, 40));
                Edges.due(Edges.ARGUMENT, () -> Edges.poll(7, 7).all(method, 41));
                Edges.due(Edges.ARGUMENT, () -> Edges.poll(7, 7).all(method, -1));
            }
        });
        Edges.sentence("3", "Those that are not IN have none;", () -> {
            for (int method : METHODS) {
                Edges.due("5 0 0", () -> barred(31, 60, 30, 10).all(method, 5));
                Edges.due("0 6 0", () -> Edges.made(x -> x.votes(1, 1), x -> x.minimum(0, 9), x -> x.minimum(2, 9))
                        .all(method, 6));
                Edges.due(0, () -> barred(31, 60, 30, 10).seats(1, method, 40));
            }
        });
        Edges.sentence("3", "nobody has one, if none is IN.", () -> {
            for (int method : METHODS) {
                Edges.due("0 0 0", () -> new Seatpower().all(method, 40));
                Edges.due("0 0 0", () -> barred(50, 1, 1, 1).all(method, 40));
                // Their minima are no matter then.
                Edges.due("0 0 0", () -> Edges.made(x -> x.minimum(0, 9)).all(method, 0));
                Edges.due(0, () -> Edges.made(x -> x.minimum(0, 9)).seats(0, method, 8));
            }
        });
        Edges.sentence("3", "Each that is IN has its MINIMUM first;", () -> {
            for (int method : METHODS) {
                Edges.due("0 9 1", () -> minimal(new int[] {90, 1, 1}, 0, 9, 1).all(method, 10));
                Edges.due("9 9 9 9 4", () -> minimal(new int[] {1, 1, 1, 1, 1}, 9, 9, 9, 9, 4).all(method, 40));
            }
            Edges.due("2 3 0", () -> minimal(new int[] {60, 30, 10}, 0, 3, 0).all(0, 5));
            Edges.due("1 4 0", () -> minimal(new int[] {60, 30, 10}, 0, 3, 0).all(5, 5));
        });
        Edges.sentence("3", "it can not be done (-8), if these are more than the HOUSE.", () -> {
            for (int method : METHODS) {
                Seatpower x = minimal(new int[] {90, 1, 0}, 2, 3, 9);
                Edges.due("!", () -> x.all(method, 4));
                Edges.due("2 3 0", () -> x.all(method, 5));
                Edges.due(-8, () -> x.seats(2, method, 4));
                Edges.due(-8, () -> x.seats(0, method, 0));
                Edges.due(2, () -> x.seats(0, method, 5));
                Edges.due("!", () -> minimal(new int[] {1, 1, 1, 1, 1}, 9, 9, 9, 9, 5).all(method, 40));
            }
        });
    }

    private static Seatpower minimal(int[] votes, int... minima) {
        Seatpower x = Edges.poll(votes);
        for (int party = 0; party < minima.length; party++) {
            x.minimum(party, minima[party]);
        }
        return x;
    }

    private static void methodsOfPartThree() {
        Edges.sentence("3", "METHODS 0 to 4: seat by seat the next one goes to the PARTY with the greatest QUOTIENT:"
                + " its votes divided by its STEP.", SeatEdges::seatBySeat);
        Edges.sentence("3", "STEP, with s seats that it has: 0 DOWN: s + 1;",
                () -> seatsByStep(0, (a, s, b, t) -> a * (t + 1) >= b * (s + 1)));
        Edges.sentence("3", "1 HALF: s + 1/2;",
                () -> seatsByStep(1, (a, s, b, t) -> a * (2 * t + 1) >= b * (2 * s + 1)));
        Edges.sentence("3", "2 UP: s;", () -> seatsByStep(2, (a, s, b, t) -> a * t >= b * s));
        Edges.sentence("3", "3 ROOT: the square root of s * (s + 1);",
                () -> seatsByStep(3, (a, s, b, t) -> a * a * t * (t + 1) >= b * b * s * (s + 1)));
        Edges.sentence("3", "4 MIDDLE: 2 * s * (s + 1) / (2 * s + 1) as a fraction.",
                () -> seatsByStep(4, (a, s, b, t) -> a * 2 * t * (t + 1) * (2 * s + 1)
                        >= b * 2 * s * (s + 1) * (2 * t + 1)));
        Edges.sentence("3", "With a STEP of 0 the QUOTIENT is greater than all others;", SeatEdges::stepOfZero);
        Edges.sentence("3", "of two such ones that of the PARTY with more votes is.", SeatEdges::twoStepsOfZero);
        Edges.sentence("3", "METHOD 5 RESTS: each that is IN gets (HOUSE less all MINIMA of those) * votes / TOTAL,"
                + " rounded down, more than its MINIMUM;", SeatEdges::roundedDownByRests);
        Edges.sentence("3", "the seats that are left go one each to those with the greatest rests of that division.",
                SeatEdges::greatestRests);
    }

    private static void seatBySeat() {
        String[] due = {"4 1 0", "3 2 0", "3 1 1", "3 1 1", "3 1 1"};
        for (int method = 0; method <= 4; method++) {
            int one = method;
            Edges.due(due[one], () -> Edges.poll(60, 30, 10).all(one, 5));
            // Equal quotients: the smallest number has it.
            Edges.due("1 0 0", () -> Edges.poll(7, 7, 7).all(one, 1));
            Edges.due("2 1 1", () -> Edges.poll(7, 7, 7).all(one, 4));
            Edges.due("14 13 13", () -> Edges.poll(7, 7, 7).all(one, 40));
            // A house more is the same house and a seat.
            Seatpower x = Edges.poll(997, 551, 401, 13, 1, 89);
            for (int house = 0; house < 40; house++) {
                int seats = house;
                Edges.due(1, () -> more(x.all(one, seats), x.all(one, seats + 1)));
            }
        }
    }

    /** How many seats a house has beyond another one; nobody may have fewer. */
    private static int more(String smaller, String larger) {
        String[] few = smaller.split(" ");
        String[] many = larger.split(" ");
        int more = 0;
        for (int party = 0; party < few.length; party++) {
            int gained = Integer.parseInt(many[party]) - Integer.parseInt(few[party]);
            more += gained < 0 ? 100 : gained;
        }
        return more;
    }

    /** Minima give so many seats ahead; the first party needs a certain number of votes to have the next one. */
    private static void seatsByStep(int method, Rule rule) {
        int other = 500;
        for (int seats = 1; seats <= 9; seats++) {
            for (int otherSeats = method < 2 ? 0 : 1; otherSeats <= 9; otherSeats++) {
                int least = 1;
                while (!rule.isAtLeast(least, seats, other, otherSeats)) {
                    least++;
                }
                int s = seats;
                int t = otherSeats;
                int enough = least;
                int house = s + t + 1;
                Edges.due((s + 1) + " " + t, () -> minimal(new int[] {enough, other}, s, t).all(method, house));
                if (enough > 1) {
                    Edges.due(s + " " + (t + 1), () -> minimal(new int[] {enough - 1, other}, s, t).all(method, house));
                }
                // As the second one it needs more than just as much.
                boolean isMore = !rule.isAtLeast(other, t, enough, s);
                Edges.due(isMore ? t + " " + (s + 1) : (t + 1) + " " + s,
                        () -> minimal(new int[] {other, enough}, t, s).all(method, house));
            }
        }
    }

    private static void stepOfZero() {
        for (int method = 2; method <= 4; method++) {
            int one = method;
            Edges.due("1 1", () -> Edges.poll(9999, 1).all(one, 2));
            Edges.due("1 1 1 1 1 1", () -> Edges.poll(9999, 1, 1, 1, 1, 1).all(one, 6));
            Edges.due("9 1", () -> minimal(new int[] {9999, 1}, 9, 0).all(one, 10));
            Edges.due("2 1 1", () -> Edges.poll(9999, 1, 1).all(one, 4));
        }
        // By the others a step is never 0.
        Edges.due("2 0", () -> Edges.poll(9999, 1).all(0, 2));
        Edges.due("2 0", () -> Edges.poll(9999, 1).all(1, 2));
    }

    private static void twoStepsOfZero() {
        for (int method = 2; method <= 4; method++) {
            int one = method;
            Edges.due("0 1 0", () -> Edges.poll(1, 3, 2).all(one, 1));
            Edges.due("0 1 1", () -> Edges.poll(1, 3, 2).all(one, 2));
            Edges.due("1 1 1", () -> Edges.poll(1, 3, 2).all(one, 3));
            Edges.due("0 0 1", () -> Edges.poll(9998, 9998, 9999).all(one, 1));
            Edges.due("1 0 1", () -> Edges.poll(9998, 9998, 9999).all(one, 2));
            Edges.due("1 1 0", () -> Edges.poll(5, 5, 5).all(one, 2));
        }
    }

    private static void roundedDownByRests() {
        Edges.due("6 3 1", () -> Edges.poll(60, 30, 10).all(5, 10));
        Edges.due("2 2", () -> Edges.poll(1, 1).all(5, 4));
        // Of 5 seats 2 are left beyond the minima: 120 / 100, 60 / 100 and 20 / 100 of them.
        Edges.due("1 4 0", () -> minimal(new int[] {60, 30, 10}, 0, 3, 0).all(5, 5));
        Edges.due("0 3 2", () -> minimal(new int[] {60, 30, 10}, 0, 3, 2).all(5, 5));
        // Who is not in has neither a minimum nor votes that count.
        Edges.due("4 2 0", () -> Edges.made(x -> x.votes(0, 60), x -> x.votes(1, 30), x -> x.votes(2, 10),
                x -> x.bar(11), x -> x.minimum(2, 3)).all(5, 6));
        Edges.due("39 1", () -> Edges.poll(9999, 257).all(5, 40));
        Edges.due("40 0", () -> Edges.poll(9999, 1).all(5, 40));
    }

    private static void greatestRests() {
        Edges.due("3 2 0", () -> Edges.poll(60, 30, 10).all(5, 5));
        Edges.due("2 1 1", () -> Edges.poll(4, 4, 2).all(5, 4));
        Edges.due("1 1 0", () -> Edges.poll(2, 1, 1).all(5, 2));
        // Equal rests: the smallest number has it, and each has one seat at most.
        Edges.due("2 2 1", () -> Edges.poll(1, 1, 1).all(5, 5));
        Edges.due("1 0 0 0 0 0", () -> Edges.poll(1, 1, 1, 1, 1, 1).all(5, 1));
        Edges.due("1 1 1 1 1 0", () -> Edges.poll(1, 1, 1, 1, 1, 1).all(5, 5));
        Edges.due("1 1 1 0", () -> Edges.poll(9, 9, 9, 1).all(5, 3));
        Edges.due("0 1", () -> Edges.poll(1, 2).all(5, 1));
        // A rest of an earlier division is none of this one.
        Seatpower x = Edges.poll(5000, 4999, 4998);
        Edges.due("1 0 0", () -> x.all(5, 1));
        x.votes(0, 3);
        x.votes(1, 3);
        x.votes(2, 0);
        Edges.due("1 0 0", () -> x.all(5, 1));
    }

    private static void rangesOfPartThree() {
        Edges.sentence("3", "RANGE (METHODS 0 to 4): the greatest QUOTIENT that comes next, \"..\", the smallest one by"
                + " which a seat went (the votes of a PARTY with more than its MINIMUM, divided by the STEP of one seat"
                + " less than it has).", SeatEdges::ranges);
        Edges.sentence("3", "As fractions, by ROOT as their squares;", () -> {
            Edges.due("600..1800", () -> Edges.poll(60, 30, 10).range(3, 4));
            Edges.due("99980001/2..*", () -> Edges.poll(9999).range(3, 1));
            Edges.due("99980001/1640..33326667/520", () -> Edges.poll(9999).range(3, 40));
            Edges.due("2/81..2/79", () -> Edges.poll(1).range(1, 40));
            Edges.due("10/3..15/4", () -> Edges.poll(30).range(0, 8));
            Edges.due("15/4..30/7", () -> Edges.poll(30).range(2, 8));
            Edges.due("5/4..9/4", () -> Edges.poll(3).range(4, 2));
        });
        Edges.sentence("3", "\"*\" for a QUOTIENT with STEP 0;", () -> {
            for (int method = 2; method <= 4; method++) {
                int one = method;
                Edges.due("*..-", () -> Edges.poll(60, 30, 10).range(one, 0));
                Edges.due("*..*", () -> Edges.poll(60, 30, 10).range(one, 1));
                Edges.due("*..*", () -> Edges.poll(60, 30, 10).range(one, 2));
                Edges.due(true, () -> Edges.poll(60, 30, 10).range(one, 3).matches("[1-9].*[.][.][*]"));
                Edges.due("*..*", () -> minimal(new int[] {60, 30, 10}, 1, 0, 0).range(one, 2));
                Edges.due(true, () -> minimal(new int[] {60, 30, 10}, 1, 1, 1).range(one, 3).matches("[1-9].*[.][.]-"));
            }
        });
        Edges.sentence("3", "\"-\" ahead if none is IN, behind if no PARTY has more than its MINIMUM.", () -> {
            for (int method = 0; method <= 4; method++) {
                int one = method;
                Edges.due("-..-", () -> Edges.poll(0, 0).range(one, 0));
                Edges.due("-..-", () -> Edges.poll(0, 0).range(one, 40));
                Edges.due("-..-", () -> barred(50, 1, 1, 1).range(one, 7));
                Edges.due(true, () -> minimal(new int[] {60, 30}, 2, 3).range(one, 5).matches("[1-9].*[.][.]-"));
                Edges.due(false, () -> minimal(new int[] {60, 30}, 2, 3).range(one, 6).contains("-"));
            }
            Edges.due("60..-", () -> Edges.poll(60, 30).range(0, 0));
            Edges.due("120..-", () -> Edges.poll(60, 30).range(1, 0));
        });
        Edges.sentence("3", "ODD: a HOUSE h, if some PARTY has fewer seats in that with h + 1.", SeatEdges::oddHouses);
        Edges.sentence("3", "SHARE of a PARTY that is IN: HOUSE * votes / TOTAL, as a fraction.", SeatEdges::shares);
    }

    private static void ranges() {
        Edges.due("15..15", () -> Edges.poll(60, 30, 10).range(0, 5));
        Edges.due("20..20", () -> Edges.poll(60, 30, 10).range(1, 5));
        Edges.due("30..30", () -> Edges.poll(60, 30, 10).range(2, 5));
        Edges.due("600..1800", () -> Edges.poll(60, 30, 10).range(3, 4));
        Edges.due("25..45", () -> Edges.poll(60, 30, 10).range(4, 4));
        // The seats of a minimum went by no quotient.
        Edges.due("20..30", () -> minimal(new int[] {60, 30, 10}, 0, 3, 0).range(0, 5));
        Edges.due("60..-", () -> minimal(new int[] {60, 30, 10}, 0, 3, 0).range(0, 3));
        Edges.due("10..12", () -> minimal(new int[] {60, 0, 9}, 4, 9, 0).range(0, 5));
        // The house may be full: a next quotient is there all the same.
        Edges.due("9999/41..9999/40", () -> Edges.poll(9999).range(0, 40));
        Edges.due("-..-", () -> new Seatpower().range(0, 5));
        Edges.due("!", () -> minimal(new int[] {60, 30, 10}, 0, 3, 0).range(0, 2));
        Edges.due(Edges.ARGUMENT, () -> Edges.poll(60).range(5, 0));
    }

    private static void oddHouses() {
        Edges.due("3:2", () -> Edges.poll(6, 6, 2).odd(5));
        Edges.due("1 1 1", () -> Edges.poll(6, 6, 2).all(5, 3));
        Edges.due("2 2 0", () -> Edges.poll(6, 6, 2).all(5, 4));
        Edges.due("3:0", () -> Edges.poll(2, 6, 6).odd(5));
        Edges.due("7:2", () -> minimal(new int[] {6, 6, 2}, 4, 0, 0).odd(5));
        Edges.due("-", () -> Edges.poll(5, 5).odd(5));
        for (int method = 0; method <= 4; method++) {
            int one = method;
            Edges.due("-", () -> Edges.poll(6, 6, 2).odd(one));
            Edges.due("-", () -> Edges.poll(41, 13, 68, 13, 90).odd(one));
        }
    }

    private static void shares() {
        Edges.due("3/2", () -> Edges.poll(60, 30, 10).share(1, 5));
        Edges.due("3", () -> Edges.poll(60, 30, 10).share(1, 10));
        Edges.due("0", () -> Edges.poll(60, 30, 10).share(1, 0));
        Edges.due("40/3", () -> barred(11, 60, 30, 10).share(1, 40));
        Edges.due("10/12499", () -> Edges.poll(9999, 9999, 9999, 9999, 9999, 1).share(5, 40));
        Edges.due("199980/50003", () -> Edges.poll(9999, 9999, 9999, 9999, 9999, 8).share(0, 20));
        Edges.due("-", () -> barred(11, 60, 30, 10).share(2, 40));
        Edges.due("-", () -> Edges.poll(0).share(0, 40));
    }

    private static void telling() {
        Edges.sentence("Promise 27", "So many PARTIES,", SeatEdges::oneToSixParties);
        Edges.sentence("Promise 27", "without votes and MINIMA (BAR stays).", () -> {
            for (int parties = 1; parties <= 6; parties++) {
                int many = parties;
                Edges.Step[] full = {x -> x.members(2), x -> x.bar(7), x -> x.parties(6), x -> x.votes(0, 5),
                    x -> x.votes(5, 6), x -> x.minimum(0, 3), x -> x.minimum(5, 4)};
                String due = Edges.withoutPast(Edges.held(Edges.made(x -> x.members(2), x -> x.bar(7),
                        x -> x.parties(many))));
                Edges.due(due, () -> Edges.withoutPast(Edges.held(Edges.made(Edges.both(full,
                        x -> x.parties(many))))));
                Edges.due(due, () -> Edges.withoutPast(Edges.held(Edges.made(Edges.both(full, x -> x.parties(1),
                        x -> x.parties(many))))));
            }
            Edges.due(7, () -> Edges.made(x -> x.bar(7), x -> x.parties(5)).house(8));
            Edges.due("10 2", () -> {
                Seatpower x = Edges.made(y -> y.weight(0, 8), y -> y.list(0, 3), y -> y.parties(2));
                return x.house(1) + " " + x.ofBody(0, 0);
            });
        });
        Edges.sentence("Promise 27", "Returns how many there were.", () -> {
            Seatpower x = new Seatpower();
            int before = 3;
            for (int many : new int[] {3, 6, 6, 1, 2, 5, 4, 1}) {
                int due = before;
                Edges.due(due, () -> x.parties(many));
                before = many;
            }
        });
        Edges.sentence("Promise 28", "Tells votes.", () -> {
            Seatpower x = new Seatpower();
            x.votes(2, 9999);
            Edges.due("0 0 4", () -> x.all(0, 4));
            x.votes(0, 9999);
            Edges.due("2 0 2", () -> x.all(0, 4));
            x.votes(2, 0);
            Edges.due("4 0 0", () -> x.all(0, 4));
        });
        Edges.sentence("Promise 28", "Returns those before.", SeatEdges::votesOfParties);
        Edges.sentence("Promise 29", "Tells a MINIMUM.", () -> {
            Seatpower x = Edges.poll(1, 1);
            x.minimum(1, 9);
            Edges.due("1 9", () -> x.all(5, 10));
            x.minimum(1, 0);
            Edges.due("5 5", () -> x.all(5, 10));
        });
        Edges.sentence("Promise 29", "Returns that before.", SeatEdges::minimaOfParties);
        Edges.sentence("Promise 30", "Tells BAR.", SeatEdges::atTheBar);
        Edges.sentence("Promise 30", "Returns that before.", SeatEdges::barOfZeroToFifty);
    }

    private static void askingForSeats() {
        Edges.sentence("Promise 32", "Returns how many seats it has; -8.", () -> {
            Seatpower x = minimal(new int[] {60, 30, 10}, 0, 0, 3);
            for (int method : METHODS) {
                Edges.due(-8, () -> x.seats(0, method, 2));
                Edges.due(0, () -> x.seats(0, method, 3));
                Edges.due(3, () -> x.seats(2, method, 3));
                Edges.due(40, () -> Edges.poll(1).seats(0, method, 40));
            }
            Edges.due("4 1 0", () -> {
                Seatpower y = Edges.poll(60, 30, 10);
                return y.seats(0, 0, 5) + " " + y.seats(1, 0, 5) + " " + y.seats(2, 0, 5);
            });
        });
        Edges.sentence("Promise 33", "Returns the seats of all PARTIES, with a blank between two; \"!\" for -8.", () -> {
            Edges.due("3 2 0", () -> Edges.poll(60, 30, 10).all(5, 5));
            Edges.due("7", () -> Edges.poll(1).all(5, 7));
            Edges.due("40 0 0 0 0 0", () -> Edges.poll(1, 0, 0, 0, 0, 0).all(5, 40));
            Edges.due("!", () -> minimal(new int[] {60, 30, 10}, 0, 0, 3).all(5, 2));
            Edges.due("0 0 3", () -> minimal(new int[] {60, 30, 10}, 0, 0, 3).all(5, 3));
        });
    }

    private static void askingForRanges() {
        Edges.sentence("Promise 34", "Returns RANGE; \"!\" for -8.", () -> {
            ranges();
            for (int method = 0; method <= 4; method++) {
                int one = method;
                Edges.due("!", () -> minimal(new int[] {60, 30}, 2, 3).range(one, 4));
                Edges.due("!", () -> minimal(new int[] {60, 30}, 9, 0).range(one, 0));
            }
        });
        String part = "Promise 35";
        Edges.sentence(part, "Returns the first ODD HOUSE of 0 to 39,", () -> {
            Edges.due("39:1", () -> Edges.poll(60, 19, 56, 29).odd(5));
            Edges.due("39:1", () -> Edges.poll(4, 1, 37, 41).odd(5));
            // The house of 40 would be the first one.
            Edges.due("-", () -> Edges.poll(262, 32, 211, 18).odd(5));
            Edges.due("-", () -> Edges.poll(24, 3, 98, 174).odd(5));
        });
        Edges.sentence(part, "\":\", the first PARTY that has fewer seats;", () -> {
            // Two parties have fewer seats there.
            Edges.due("8:1", () -> Edges.poll(41, 13, 68, 13, 90).odd(5));
            Edges.due("23:1", () -> Edges.poll(57, 13, 48, 25, 48, 13).odd(5));
            Edges.due("13:1", () -> Edges.poll(141, 19, 183, 18, 177).odd(5));
        });
        Edges.sentence(part, "\"-\" without one", () -> {
            Edges.due("-", () -> new Seatpower().odd(5));
            Edges.due("-", () -> Edges.poll(1).odd(5));
            Edges.due("-", () -> Edges.poll(5, 5).odd(0));
        });
        Edges.sentence(part, "(a HOUSE for which it can not be done is left out).", () -> {
            for (int method : METHODS) {
                Seatpower x = minimal(new int[] {90, 10, 1}, 9, 9, 9);
                x.all(method, 40);
                Edges.due("-", () -> x.odd(method));
                Edges.due("-", () -> minimal(new int[] {9, 9, 9, 9, 9}, 9, 9, 9, 9, 9).odd(method));
            }
            Edges.due("7:2", () -> minimal(new int[] {6, 6, 2}, 4, 0, 0).odd(5));
        });
    }

    private static void askingForOthers() {
        Edges.sentence("Promise 36", "Returns how many seats more (or less, with \"-\" ahead) both would have if they were"
                + " one PARTY, with votes and MINIMA of both, in the place of a (b is without both then);",
                SeatEdges::mergers);
        Edges.sentence("Promise 36", "\"!\" if one of both can not be done.", () -> {
            for (int method : METHODS) {
                Edges.due("!", () -> minimal(new int[] {60, 30, 10}, 0, 3, 3).merged(method, 5, 0, 1));
                Edges.due("!", () -> minimal(new int[] {60, 30, 10}, 0, 3, 3).merged(method, 5, 1, 2));
                Edges.due("0", () -> minimal(new int[] {60, 30, 10}, 0, 3, 3).merged(method, 6, 1, 2));
                // As they are it can be done, as one it can not: only then is the minimum of b one of those in.
                Seatpower x = minimal(new int[] {60, 30, 10}, 0, 3, 3);
                x.bar(25);
                Edges.due("!", () -> x.merged(method, 5, 1, 2));
                Edges.due(method == 5 ? "2" : "3", () -> x.merged(method, 6, 1, 2));
            }
        });
        Edges.sentence("Promise 37", "Returns the seats of all PARTIES, if so many votes of a (all, if it has fewer) were"
                + " those of b;", SeatEdges::moves);
        Edges.sentence("Promise 37", "\"!\" for -8.", () -> {
            for (int method : METHODS) {
                Seatpower x = minimal(new int[] {60, 30, 10}, 0, 0, 4);
                x.bar(20);
                Edges.due("!", () -> x.moved(method, 3, 0, 2, 10));
                Edges.due("2 1 0", () -> x.moved(5, 3, 0, 2, 9));
                Edges.due("!", () -> minimal(new int[] {60, 30, 10}, 0, 0, 4).moved(method, 3, 0, 1, 1));
                // Without a vote the minimum is no matter any more.
                Edges.due("0 3 0", () -> minimal(new int[] {60, 0, 0}, 4, 0, 0).moved(method, 3, 0, 1, 60));
                Edges.due("!", () -> minimal(new int[] {60, 0, 0}, 4, 0, 0).moved(method, 3, 0, 1, 59));
            }
        });
        Edges.sentence("Promise 38", "Returns how many PARTIES that are IN have fewer seats than their SHARE rounded down,"
                + " or more than it rounded up;", SeatEdges::misses);
        Edges.sentence("Promise 38", "-8.", () -> {
            for (int method : METHODS) {
                Edges.due(-8, () -> minimal(new int[] {60, 30, 10}, 0, 0, 4).missed(method, 3));
                Edges.due(-8, () -> minimal(new int[] {60, 30, 10}, 0, 0, 1).missed(method, 0));
                Edges.due(0, () -> minimal(new int[] {60, 30, 0}, 0, 0, 4).missed(method, 0));
            }
        });
    }

    private static void mergers() {
        Edges.due("1", () -> Edges.poll(50, 25, 25).merged(0, 2, 1, 2));
        Edges.due("-1", () -> Edges.poll(60, 30, 10).merged(2, 3, 1, 2));
        Edges.due("0", () -> Edges.poll(60, 30, 10).merged(2, 0, 1, 2));
        Edges.due("0", () -> Edges.poll(60, 30).merged(0, 40, 1, 0));
        Edges.due("0", () -> new Seatpower().merged(0, 40, 1, 0));
        Edges.due("0", () -> Edges.poll(1, 1, 1, 1, 1, 1).merged(2, 7, 4, 2));
        // In the place of a: of equal quotients that of the smallest number is taken.
        Edges.due("1", () -> Edges.poll(25, 50, 25).merged(0, 1, 0, 2));
        Edges.due("0", () -> Edges.poll(25, 50, 25).merged(0, 1, 2, 0));
        // Together they may be in, and have more than 9999 votes or a minimum above 9.
        Edges.due("1", () -> barred(15, 80, 12, 8).merged(0, 5, 1, 2));
        Edges.due("1", () -> Edges.poll(9999, 9999, 6000).merged(0, 3, 0, 1));
        Edges.due("0", () -> minimal(new int[] {90, 1, 1}, 0, 9, 9).merged(0, 18, 1, 2));
        Edges.due("!", () -> minimal(new int[] {90, 1, 1}, 0, 9, 9).merged(0, 17, 2, 1));
        // Nothing has changed then.
        Seatpower x = minimal(new int[] {60, 30, 10}, 1, 0, 1);
        x.merged(0, 9, 0, 1);
        Edges.due("60 30 10", () -> x.votes(0, 60) + " " + x.votes(1, 30) + " " + x.votes(2, 10));
        Edges.due(1, () -> x.minimum(0, 1));
        Edges.due(Edges.ARGUMENT, () -> x.merged(0, 9, 1, 1));
    }

    private static void moves() {
        Edges.due("2 1 2", () -> Edges.poll(60, 30, 10).moved(1, 5, 0, 2, 30));
        Edges.due("3 2 0", () -> Edges.poll(60, 30, 10).moved(1, 5, 0, 2, 0));
        Edges.due("0 2 3", () -> Edges.poll(60, 30, 10).moved(1, 5, 0, 2, 60));
        Edges.due("0 2 3", () -> Edges.poll(60, 30, 10).moved(1, 5, 0, 2, 61));
        Edges.due("0 2 3", () -> Edges.poll(60, 30, 10).moved(1, 5, 0, 2, Edges.HIGH));
        Edges.due("1 2 2", () -> Edges.poll(60, 30, 10).moved(1, 5, 0, 2, 40));
        Edges.due("3 2 0", () -> Edges.poll(60, 30, 0).moved(1, 5, 2, 0, 9));
        Edges.due("0 40", () -> Edges.poll(9999, 9999).moved(0, 40, 0, 1, Edges.HIGH));
        Edges.due("0 2 0", () -> Edges.poll(9999, 9999, 9998).moved(0, 2, 0, 1, 9998));
        Seatpower x = Edges.poll(60, 30, 10);
        x.moved(1, 5, 0, 2, 60);
        Edges.due("60 10", () -> x.votes(0, 60) + " " + x.votes(2, 10));
        Edges.due(Edges.ARGUMENT, () -> x.moved(1, 5, 0, 2, -1));
        Edges.due(Edges.ARGUMENT, () -> x.moved(1, 5, 2, 2, 1));
    }

    private static void misses() {
        // Shares of 3, 3/2 and 1/2: by DOWN the first one has 4.
        Edges.due(1, () -> Edges.poll(60, 30, 10).missed(0, 5));
        Edges.due(0, () -> Edges.poll(60, 30, 10).missed(5, 5));
        Edges.due(0, () -> Edges.poll(60, 30, 10).missed(5, 10));
        Edges.due(0, () -> Edges.poll(60, 30, 10).missed(0, 10));
        // Shares of 9, 2/5, 3/10 and 3/10: by UP the first one has 7, the others have 1, which is rounded up.
        Edges.due(1, () -> Edges.poll(90, 4, 3, 3).missed(2, 10));
        // A minimum of 9 for a share of 9 / 25: two parties are beyond theirs.
        Edges.due(2, () -> minimal(new int[] {90, 4, 3, 3}, 0, 9, 0, 0).missed(5, 9));
        // Who is not in is not counted, and has no votes in the total.
        Edges.due(0, () -> barred(5, 90, 4, 3, 3).missed(0, 10));
        Edges.due(0, () -> barred(5, 90, 4, 3, 3).missed(0, 40));
        Edges.due(0, () -> new Seatpower().missed(0, 40));
        // Shares of 15/4 and 5/4, and 2 and 3 seats: fewer than 3, and more than 2.
        Edges.due(2, () -> minimal(new int[] {3, 1}, 0, 3).missed(5, 5));
        // A share that is whole is rounded to itself both ways.
        Edges.due(2, () -> minimal(new int[] {1, 1}, 3, 0).missed(5, 4));
        Edges.due(0, () -> minimal(new int[] {1, 1}, 2, 0).missed(0, 4));
        Edges.due(0, () -> minimal(new int[] {1, 1}, 2, 0).missed(0, 3));
    }

    private static void askingForMore() {
        String part = "Promise 39";
        Edges.sentence(part, "Returns the least number of 1 to 99 of votes that it would have to have more (all others as"
                + " they are) to have more seats;", () -> {
                    // As the first one 1 is enough, as the second one it takes one more than just as many.
                    Edges.due(1, () -> Edges.poll(9, 10).more(0, 0, 1));
                    Edges.due(2, () -> Edges.poll(10, 9).more(1, 0, 1));
                    Edges.due(1, () -> Edges.poll(10, 10).more(1, 0, 1));
                    Edges.due(99, () -> Edges.poll(197, 0).more(1, 0, 2));
                    Edges.due(99, () -> Edges.poll(98, 0).more(1, 0, 1));
                    Edges.due(1, () -> Edges.poll(60, 30, 0).more(2, 2, 5));
                    Edges.due(41, () -> Edges.poll(9999, 5020).more(0, 0, 2));
                    // With 6 more of 106 votes it is in.
                    Edges.due(6, () -> barred(15, 60, 30, 10).more(2, 5, 5));
                });
        Edges.sentence(part, "NONE without;", () -> {
            for (int method : METHODS) {
                Edges.due(-1, () -> Edges.poll(60, 30, 10).more(0, method, 0));
                Edges.due(-1, () -> Edges.poll(60).more(0, method, 40));
            }
            Edges.due(-1, () -> Edges.poll(198, 0).more(1, 0, 2));
            Edges.due(-1, () -> Edges.poll(99, 0).more(1, 0, 1));
            Edges.due(-1, () -> Edges.poll(9999, 9999, 0).more(2, 0, 5));
        });
        Edges.sentence(part, "-8, if it can not be done as it is", () -> {
            for (int method : METHODS) {
                Edges.due(-8, () -> minimal(new int[] {60, 30, 10}, 3, 3, 0).more(2, method, 5));
                // Though with more votes the second one would not be in any more.
                Seatpower x = minimal(new int[] {10, 90}, 0, 9);
                x.bar(50);
                Edges.due(-8, () -> x.more(0, method, 8));
            }
        });
        Edges.sentence(part, "(a number with which it can not be done brings nothing).", () -> {
            for (int method : METHODS) {
                Seatpower x = minimal(new int[] {60, 30, 10}, 0, 0, 4);
                x.bar(15);
                Edges.due(-1, () -> x.more(2, method, 3));
                Edges.due(6, () -> x.more(2, method, 4));
                // With 10 more both small ones are in, and 3 seats are too few; with 11 the other one is out.
                Seatpower y = minimal(new int[] {800, 100, 90}, 0, 2, 3);
                y.bar(10);
                Edges.due(11, () -> y.more(2, method, 3));
                Edges.due(10, () -> y.more(2, method, 5));
            }
        });
        Edges.sentence("Promise 40", "Returns its SHARE;", SeatEdges::shares);
        Edges.sentence("Promise 40", "\"-\", if it is not IN.", () -> {
            Edges.due("-", () -> new Seatpower().share(0, 0));
            Edges.due("-", () -> barred(50, 1, 1, 1).share(2, 40));
            Edges.due("-", () -> barred(11, 60, 30, 10).share(2, 0));
            Edges.due("0", () -> barred(10, 60, 30, 10).share(2, 0));
            // Whether it can be done is no matter.
            Edges.due("1/2", () -> minimal(new int[] {1, 1}, 9, 9).share(1, 1));
        });
    }
}
