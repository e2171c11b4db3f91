import java.io.IOException;
import java.nio.file.Files;
import java.nio.file.Path;
import java.util.ArrayList;
import java.util.Arrays;
import java.util.LinkedHashMap;
import java.util.List;
import java.util.Map;
import java.util.TreeSet;

/** Runs a test for each sentence of the document, and tells which words of it no test has quoted. */
final class Edges {
    static final String INDEX = "IndexOutOfBoundsException";
    static final String ARGUMENT = "IllegalArgumentException";
    static final String STATE = "IllegalStateException";
    static final int LOW = Integer.MIN_VALUE;
    static final int HIGH = Integer.MAX_VALUE;
    /** What later calls of an object answer is free. */
    static final int MOST_CALLS = 512;

    /** A call whose answer, or the exception's name, is looked at. */
    interface Call {
        Object answer();
    }

    /** A call that tells or asks something. */
    interface Step {
        void on(Seatpower x);
    }

    /** A question, and its answer. */
    interface Ask {
        Object of(Seatpower x);
    }

    /** What is looked at for a sentence. */
    interface Look {
        void look();
    }

    /** Three calls that can be undone. */
    static final Step[] FEW = {x -> x.weight(0, 4), x -> x.list(1, 3), x -> x.votes(2, 7), x -> x.knock()};
    /** More calls than can be undone; one MEMBER has no WEIGHT, and nobody WINS in BODY 3. */
    static final Step[] MANY = {x -> x.members(4), x -> x.bar(7), x -> x.parties(4), x -> x.weight(0, 9),
        x -> x.weight(1, 7), x -> x.weight(2, 0), x -> x.quota(0, 10, 2), x -> x.list(1, 5), x -> x.list(1, 2),
        x -> x.list(2, 8), x -> x.like(0, 1, 2), x -> x.like(3, 1, 9), x -> x.quarrel(0, 2, true),
        x -> x.quarrel(1, 3, true), x -> x.votes(0, 60), x -> x.votes(1, 30), x -> x.votes(3, 10),
        x -> x.minimum(1, 2), x -> x.minimum(2, 9), x -> x.knock(), x -> x.knock()};

    private static final Map<String, StringBuilder> TEXTS = new LinkedHashMap<>();
    private static final Map<String, boolean[]> QUOTED = new LinkedHashMap<>();
    private static String now = "";
    /** So many lines of one sentence are printed. */
    private static final int MOST_LINES = 5;
    private static int looked;
    private static int sentences;
    private static int wrong;
    private static int wrongHere;

    private Edges() {
    }

    /** Reads the parts of the document: "1" to "3", "Description" (its opening), "Promise 1" and so on. */
    static void open(Path document) throws IOException {
        String part = "";
        for (String line : Files.readAllLines(document)) {
            if (line.startsWith("## ")) {
                part = line.substring(3).replaceAll(":.*", "");
            } else if (line.startsWith("== ")) {
                part = line.substring(3, 4);
            } else if (isSaying(line)) {
                String said = line.replaceFirst("^- `what`: ", "").strip();
                TEXTS.computeIfAbsent(part, key -> new StringBuilder()).append(said).append(' ');
            }
        }
        TEXTS.forEach((key, text) -> QUOTED.put(key, new boolean[text.length()]));
    }

    /** Signatures, headings and the names of arguments are no sentences. */
    private static boolean isSaying(String line) {
        boolean isNamed = line.startsWith("- `") && !line.startsWith("- `what`");
        return !(line.isBlank() || line.startsWith("`") || line.startsWith("----") || line.startsWith("#") || isNamed
                || line.startsWith("The constructor and the methods follow"));
    }

    /** A sentence of a part of the document, or some words of one, with the look that would fail if it were broken. */
    static void sentence(String part, String quote, Look look) {
        now = part + ": " + quote;
        sentences++;
        looked = 0;
        wrongHere = 0;
        markQuoted(part, quote);
        try {
            look.look();
        } catch (RuntimeException e) {
            fail("stopped by " + e);
        }
        if (looked == 0) {
            fail("nothing was looked at");
        }
    }

    private static void markQuoted(String part, String quote) {
        String text = String.valueOf(TEXTS.get(part));
        int from = text.indexOf(quote);
        if (from < 0) {
            fail("no such words in the document");
            return;
        }
        for (int place = from; place < from + quote.length(); place++) {
            QUOTED.get(part)[place] = true;
        }
    }

    /** Only the parts that promise something have to be quoted from end to end. */
    static void tellWhatIsNotQuoted() {
        TEXTS.forEach((part, text) -> {
            if (part.matches("[123]|Description|Promise \\d+")) {
                now = part;
                wrongHere = 0;
                StringBuilder left = new StringBuilder();
                for (int place = 0; place < text.length(); place++) {
                    left.append(QUOTED.get(part)[place] ? '\n' : text.charAt(place));
                }
                left.toString().lines().filter(words -> words.matches(".*\\w.*"))
                        .forEach(words -> fail("no test quotes \"" + words.strip() + "\""));
            }
        });
    }

    static int end() {
        System.out.println(wrong == 0 ? "all " + sentences + " sentences hold" : wrong + " looks at sentences failed");
        return wrong == 0 ? 0 : 1;
    }

    private static void fail(String why) {
        wrong++;
        wrongHere++;
        if (wrongHere <= MOST_LINES) {
            System.out.println(now + " -- " + why);
        }
    }

    static void due(Object due, Call call) {
        Object got;
        looked++;
        try {
            got = call.answer();
        } catch (RuntimeException e) {
            got = e.getClass().getSimpleName();
        }
        if (!due.equals(got)) {
            StackTraceElement at = StackWalker.getInstance().walk(frames -> frames
                    .filter(frame -> !frame.getClassName().equals("Edges")).findFirst().orElseThrow()).toStackTraceElement();
            fail("answered " + got + ", due is " + due + " at " + at);
        }
    }

    /** A council of so many members with these weights. */
    static Seatpower council(int... weights) {
        Seatpower x = new Seatpower();
        x.members(weights.length);
        for (int member = 0; member < weights.length; member++) {
            x.weight(member, weights[member]);
        }
        return x;
    }

    /** A council of so many members whose body 0 is told by groups. */
    static Seatpower listed(int members, int... groups) {
        Seatpower x = new Seatpower();
        x.members(members);
        for (int group : groups) {
            x.list(0, group);
        }
        return x;
    }

    static Seatpower poll(int... votes) {
        Seatpower x = new Seatpower();
        x.parties(votes.length);
        for (int party = 0; party < votes.length; party++) {
            x.votes(party, votes[party]);
        }
        return x;
    }

    static Seatpower made(Step... steps) {
        Seatpower x = new Seatpower();
        for (Step step : steps) {
            step.on(x);
        }
        return x;
    }

    /** The groups that win, rising, each as wins() tells. */
    static TreeSet<Integer> winners(Seatpower x, int body) {
        TreeSet<Integer> winners = new TreeSet<>();
        int groups = 1 << x.house(0);
        for (int group = 0; group < groups; group++) {
            if (x.wins(body, group)) {
                winners.add(group);
            }
        }
        return winners;
    }

    /** All that an object holds, but for what can be undone; the object is of no more use then. */
    static String held(Seatpower x) {
        return held(x, false);
    }

    /** Of two members the greater one is named first, or last. */
    private static String held(Seatpower x, boolean isLast) {
        StringBuilder held = new StringBuilder();
        for (int what = 0; what <= 10; what++) {
            held.append(x.house(what)).append(what < 10 ? " " : " bodies");
        }
        for (int body = 0; body < 4; body++) {
            held.append(' ').append(x.ofBody(body, 0)).append(":").append(x.least(body, false));
        }
        int members = x.house(0);
        for (int a = 0; a < members; a++) {
            held.append(" m").append(x.weight(a, 1));
            for (int b = 0; b < a; b++) {
                held.append(' ').append(isLast ? x.like(b, a, 5) : x.like(a, b, 5));
                held.append(isLast ? x.quarrel(b, a, false) : x.quarrel(a, b, false));
            }
        }
        for (int party = 0; party < x.house(3); party++) {
            held.append(" p").append(x.votes(party, 0)).append(' ').append(x.minimum(party, 0));
        }
        return held.append(" bar").append(x.bar(0)).toString();
    }

    /** What an object holds, without how many calls can be undone. */
    static String withoutPast(String held) {
        return held.replaceAll("\\d+ (\\d+ bodies)", "$1");
    }

    /** What an object holds after these calls, then after each undo() as far as that goes. */
    static List<String> history(Step... steps) {
        List<String> history = new ArrayList<>();
        int kept = made(steps).house(9);
        for (int undone = 0; undone <= kept; undone++) {
            history.add(held(undone(undone, steps), false) + held(undone(undone, steps), true));
        }
        return history;
    }

    private static Seatpower undone(int times, Step... steps) {
        Seatpower x = made(steps);
        for (int undo = 0; undo < times; undo++) {
            x.undo();
        }
        return x;
    }

    /** Calls that change nothing: on an object with a full and on one with a short past, for all that can be undone. */
    static void unchanged(Step... calls) {
        for (Step[] start : new Step[][] {FEW, MANY}) {
            due(history(start), () -> history(both(start, calls)));
        }
    }

    static Step[] both(Step[] first, Step... second) {
        Step[] both = Arrays.copyOf(first, first.length + second.length);
        System.arraycopy(second, 0, both, first.length, second.length);
        return both;
    }

    /** A refused call as a step: it has to be refused, and the exception goes no further. */
    static Step refused(Step call) {
        return x -> {
            try {
                call.on(x);
            } catch (IndexOutOfBoundsException | IllegalArgumentException | IllegalStateException e) {
                return;
            }
            throw new UnsupportedOperationException("was not refused");
        };
    }
}
