import java.lang.reflect.InvocationTargetException;
import java.lang.reflect.Method;
import java.util.ArrayList;
import java.util.Arrays;
import java.util.List;
import java.util.stream.IntStream;

/**
 * Each "Throws" row: all calls whose arguments stand at the edges, just beyond them and far beyond them, one or several
 * of them wrong. Which exception is due is told by the kinds of the arguments alone; a call that is due to throw none
 * has to answer as the model does.
 */
final class ThrowsEdges {
    /** What stands in the document of one method: the kinds of its arguments, and when it throws which exception. */
    private record Face(int promise, String name, String kinds, String index, String argument) {
    }

    private static final String NO_BODY = "if there is no such BODY";
    private static final String NO_MEMBER = "if there is no such MEMBER";
    private static final String NO_BODY_OR_MEMBER = "if there is no such BODY or MEMBER";
    private static final String NO_PARTY = "if there is no such PARTY";
    private static final String METHOD_OR_HOUSE = "if method is not 0 to 5, or house not 0 to 40";
    private static final List<Face> FACES = List.of(
            new Face(2, "members", "n", null, "if many is not 1 to 6"),
            new Face(3, "weight", "mw", NO_MEMBER, "if weight is not 0 to 99"),
            new Face(4, "like", "MMd", NO_MEMBER, "if they are the same, or much is not 0 to 9"),
            new Face(5, "quarrel", "MM?", NO_MEMBER, "if they are the same"),
            new Face(6, "quota", "bqh", NO_BODY, "if quota is not 1 to 999, or heads not 0 to 6"),
            new Face(7, "none", "b", NO_BODY, null),
            new Face(8, "list", "bg", NO_BODY, "if group is 0, or no GROUP"),
            new Face(9, "join", "bbb?", NO_BODY, null),
            new Face(10, "dual", "bb", NO_BODY, null),
            new Face(11, "bloc", "bgb", NO_BODY, "if group is 0, or no GROUP"),
            new Face(12, "within", "bmbb", NO_BODY_OR_MEMBER, null),
            new Face(13, "veto", "bm", NO_BODY_OR_MEMBER, null),
            new Face(14, "make", "bN", NO_BODY, "if number is below 0"),
            new Face(15, "wins", "bG", NO_BODY, "if group is no GROUP"),
            new Face(16, "ofBody", "bo", NO_BODY, "if what is not 0 to 8"),
            new Face(17, "least", "b?", NO_BODY, null),
            new Face(18, "swings", "bm?", NO_BODY_OR_MEMBER, null),
            new Face(19, "power", "bmk", NO_BODY_OR_MEMBER, "if kind is not 0 to 4"),
            new Face(20, "turner", "bN", NO_BODY, "if order is below 0"),
            new Face(21, "same", "bb", NO_BODY, null),
            new Face(22, "areAlike", "bmm", NO_BODY_OR_MEMBER, null),
            new Face(23, "weights", "b", NO_BODY, null),
            new Face(24, "trade", "b", NO_BODY, null),
            new Face(25, "best", "m", NO_MEMBER, null),
            new Face(26, "held", "b", NO_BODY, null),
            new Face(27, "parties", "n", null, "if many is not 1 to 6"),
            new Face(28, "votes", "pv", NO_PARTY, "if votes is not 0 to 9999"),
            new Face(29, "minimum", "pd", NO_PARTY, "if least is not 0 to 9"),
            new Face(30, "bar", "B", null, "if percent is not 0 to 50"),
            new Face(32, "seats", "pxH", NO_PARTY, METHOD_OR_HOUSE),
            new Face(33, "all", "xH", null, METHOD_OR_HOUSE),
            new Face(34, "range", "XH", null, "if method is not 0 to 4, or house not 0 to 40"),
            new Face(35, "odd", "x", null, "if method is not 0 to 5"),
            new Face(36, "merged", "xHPP", NO_PARTY,
                    "if method is not 0 to 5, house not 0 to 40, or they are the same"),
            new Face(37, "moved", "xHPPN", NO_PARTY,
                    "if method is not 0 to 5, house not 0 to 40, they are the same, or votes is below 0"),
            new Face(38, "missed", "xH", null, METHOD_OR_HOUSE),
            new Face(39, "more", "pxH", NO_PARTY, METHOD_OR_HOUSE),
            new Face(40, "share", "pH", NO_PARTY, "if house is not 0 to 40"),
            new Face(41, "house", "W", null, "if what is not 0 to 10"));

    /** Objects with few and with many, some of which tell -8 or -9 for calls that are let. */
    private static final String[][] STATES = {
        {},
        {"members 1", "parties 1", "list 2 1", "votes 0 9999"},
        {"members 6", "parties 6", "weight 0 99", "quota 0 3 4", "list 3 32", "votes 0 70", "votes 1 20", "votes 5 9",
            "minimum 0 9", "minimum 1 9", "bar 5"},
        {"members 5", "parties 2", "list 1 3", "list 1 20", "votes 0 40", "votes 1 41", "minimum 1 2"},
        {"members 4", "parties 4", "make 0 166", "make 1 99", "quarrel 0 3 1", "votes 2 5", "votes 3 6", "bar 50"}};

    private static final int BATCH = 380;

    private ThrowsEdges() {
    }

    static void run() {
        for (Face face : FACES) {
            String promise = "Promise " + face.promise;
            if (face.index != null) {
                Edges.sentence(promise, "Throws `" + Edges.INDEX + "` " + face.index, () -> sweep(face, Edges.INDEX));
            }
            if (face.argument != null) {
                Edges.sentence(promise, "Throws `" + Edges.ARGUMENT + "` " + face.argument,
                        () -> sweep(face, Edges.ARGUMENT));
            }
        }
        Edges.sentence("Description", "If several exceptions apply, the one that is named first is thrown;",
                ThrowsEdges::firstOfSeveral);
    }

    private static void sweep(Face face, String exception) {
        for (String[] state : STATES) {
            List<Object[]> calls = new ArrayList<>();
            for (Object[] arguments : combinations(face, state)) {
                if (exception.equals(exceptionOf(face.kinds, arguments, state))) {
                    calls.add(arguments);
                }
            }
            if (calls.isEmpty()) {
                throw new UnsupportedOperationException("no call of " + face.name + " throws");
            }
            for (int from = 0; from < calls.size(); from += BATCH) {
                refuse(face, state, calls.subList(from, Math.min(calls.size(), from + BATCH)), exception);
            }
            compareGood(face, state);
        }
    }

    /** Calls that throw, one after the other on one object, change nothing of it. */
    private static void refuse(Face face, String[] state, List<Object[]> calls, String exception) {
        Seatpower x = (Seatpower) after(new Seatpower(), state);
        for (Object[] arguments : calls) {
            Edges.due(called(face, arguments) + exception, () -> called(face, arguments) + call(x, face.name, arguments));
        }
        String due = Edges.held((Seatpower) after(new Seatpower(), state));
        Edges.due(due, () -> Edges.held(x));
    }

    private static void compareGood(Face face, String[] state) {
        for (Object[] arguments : combinations(face, state)) {
            if (exceptionOf(face.kinds, arguments, state).isEmpty()) {
                Object due = call(after(new SeatpowerModel(), state), face.name, arguments);
                Edges.due(called(face, arguments) + due, () -> called(face, arguments)
                        + call(after(new Seatpower(), state), face.name, arguments));
            }
        }
    }

    /** Wherever a wrong index and a wrong argument meet, each document row names the index first. */
    private static void firstOfSeveral() {
        Seatpower x = new Seatpower();
        Edges.due(Edges.INDEX, () -> x.weight(3, 100));
        Edges.due(Edges.INDEX, () -> x.like(3, 3, 10));
        Edges.due(Edges.INDEX, () -> x.like(0, 3, 10));
        Edges.due(Edges.INDEX, () -> x.quarrel(-1, -1, true));
        Edges.due(Edges.INDEX, () -> x.quota(4, 0, 7));
        Edges.due(Edges.INDEX, () -> x.list(-1, 0));
        Edges.due(Edges.INDEX, () -> x.bloc(0, 0, 4));
        Edges.due(Edges.INDEX, () -> x.bloc(4, 8, 0));
        Edges.due(Edges.INDEX, () -> x.make(4, -1));
        Edges.due(Edges.INDEX, () -> x.wins(4, 8));
        Edges.due(Edges.INDEX, () -> x.ofBody(4, 9));
        Edges.due(Edges.INDEX, () -> x.power(0, 3, 5));
        Edges.due(Edges.INDEX, () -> x.turner(4, -1));
        Edges.due(Edges.INDEX, () -> x.votes(3, 10000));
        Edges.due(Edges.INDEX, () -> x.minimum(3, 10));
        Edges.due(Edges.INDEX, () -> x.seats(3, 6, 41));
        Edges.due(Edges.INDEX, () -> x.merged(6, 41, 3, 3));
        Edges.due(Edges.INDEX, () -> x.merged(6, 41, 0, 3));
        Edges.due(Edges.INDEX, () -> x.moved(6, 41, 3, 3, -1));
        Edges.due(Edges.INDEX, () -> x.moved(6, 41, 0, -1, -1));
        Edges.due(Edges.INDEX, () -> x.more(3, 6, 41));
        Edges.due(Edges.INDEX, () -> x.share(3, 41));
    }

    private static String called(Face face, Object[] arguments) {
        return face.name + Arrays.toString(arguments) + " ";
    }

    /** The exception that is due; empty if none is. */
    private static String exceptionOf(String kinds, Object[] arguments, String[] state) {
        boolean isArgumentWrong = false;
        boolean areSame = false;
        for (int place = 0; place < kinds.length(); place++) {
            char kind = kinds.charAt(place);
            if (kind == '?') {
                continue;
            }
            int[] range = rangeOf(kind, state);
            int value = (int) arguments[place];
            boolean isWrong = value < range[0] || value > range[1];
            if (isWrong && "bmMpP".indexOf(kind) >= 0) {
                return Edges.INDEX;
            }
            isArgumentWrong |= isWrong;
            areSame |= place > 0 && "MP".indexOf(kind) >= 0 && kinds.charAt(place - 1) == kind
                    && value == (int) arguments[place - 1];
        }
        return isArgumentWrong || areSame ? Edges.ARGUMENT : "";
    }

    /** The least and the greatest number that an argument of a kind may be. */
    private static int[] rangeOf(char kind, String[] state) {
        int members = state.length == 0 ? 3 : state[0].charAt(8) - '0';
        int parties = state.length == 0 ? 3 : state[1].charAt(8) - '0';
        switch (kind) {
            case 'n': return new int[] {1, 6};
            case 'm': case 'M': return new int[] {0, members - 1};
            case 'p': case 'P': return new int[] {0, parties - 1};
            case 'b': return new int[] {0, 3};
            case 'w': return new int[] {0, 99};
            case 'd': return new int[] {0, 9};
            case 'q': return new int[] {1, 999};
            case 'h': return new int[] {0, 6};
            case 'g': return new int[] {1, (1 << members) - 1};
            case 'G': return new int[] {0, (1 << members) - 1};
            case 'N': return new int[] {0, Edges.HIGH};
            case 'o': return new int[] {0, 8};
            case 'k': case 'X': return new int[] {0, 4};
            case 'v': return new int[] {0, 9999};
            case 'B': return new int[] {0, 50};
            case 'x': return new int[] {0, 5};
            case 'H': return new int[] {0, 40};
            case 'W': return new int[] {0, 10};
            default: throw new UnsupportedOperationException("a kind without a range");
        }
    }

    private static Object[] valuesOf(char kind, String[] state) {
        if (kind == '?') {
            return new Object[] {false, true};
        }
        int[] range = rangeOf(kind, state);
        long[] near = {range[0] - 1L, range[0], range[0] + 1L, range[1], range[1] + 1L};
        // Far ones would seem right if a number were cut to a byte, or its sign were taken away.
        long[] far = {Edges.LOW, Edges.LOW + 1L, -256L - range[0], 256L + range[0], 65536L + range[1], Edges.HIGH};
        return IntStream.concat(asInts(near), asInts(far)).distinct().boxed().toArray();
    }

    private static IntStream asInts(long[] values) {
        return Arrays.stream(values).filter(value -> value == (int) value).mapToInt(value -> (int) value);
    }

    /** With many arguments, only the nearest and the farthest of each. */
    private static List<Object[]> combinations(Face face, String[] state) {
        List<Object[]> rows = new ArrayList<>();
        rows.add(new Object[0]);
        for (int place = 0; place < face.kinds.length(); place++) {
            Object[] values = valuesOf(face.kinds.charAt(place), state);
            if (face.kinds.length() > 4 && values.length > 7) {
                values = Arrays.copyOf(values, 7);
                values[6] = Edges.HIGH;
            }
            List<Object[]> longer = new ArrayList<>();
            for (Object[] row : rows) {
                for (Object value : values) {
                    Object[] next = Arrays.copyOf(row, row.length + 1);
                    next[row.length] = value;
                    longer.add(next);
                }
            }
            rows = longer;
        }
        return rows;
    }

    private static Object after(Object fresh, String[] state) {
        for (String step : state) {
            String[] words = step.split(" ");
            Object[] arguments = new Object[words.length - 1];
            for (int place = 1; place < words.length; place++) {
                boolean isLast = words[0].equals("quarrel") && place == 3;
                arguments[place - 1] = isLast ? (Object) words[place].equals("1") : (Object) Integer.valueOf(words[place]);
            }
            call(fresh, words[0], arguments);
        }
        return fresh;
    }

    private static Object call(Object on, String name, Object[] arguments) {
        for (Method method : on.getClass().getMethods()) {
            if (method.getName().equals(name)) {
                try {
                    return method.invoke(on, arguments);
                } catch (InvocationTargetException e) {
                    return e.getCause().getClass().getSimpleName();
                } catch (IllegalAccessException e) {
                    return e.toString();
                }
            }
        }
        return "no such method";
    }
}
