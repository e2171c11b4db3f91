import java.lang.reflect.InvocationTargetException;
import java.lang.reflect.Method;
import java.util.Arrays;
import java.util.Comparator;
import java.util.List;
import java.util.Random;

/** Runs of 512 calls, with good and with wrong arguments, on Seatpower and on the slow model of the document. */
public final class ModelTest {
    private static final int RUNS = 144;
    private static final int CALLS = 512;
    private static final List<String> TELLING = List.of("weight", "weight", "like", "quarrel", "quota", "list", "list",
            "join", "votes", "votes", "minimum", "bar");
    private static final List<String> SELDOM = List.of("members", "parties", "none", "none", "isSound", "digest", "digest",
            "undo", "make", "veto");

    private static Random random;
    private static int wrong = 0;

    public static void main(String[] args) {
        Method[] face = Arrays.stream(Seatpower.class.getDeclaredMethods())
                .filter(method -> java.lang.reflect.Modifier.isPublic(method.getModifiers()))
                .sorted(Comparator.comparing(Method::getName)).toArray(Method[]::new);
        for (int members = 1; members <= 4 && wrong == 0; members++) {
            compareAllBodies(members, face);
        }
        for (int run = 0; run < RUNS && wrong == 0; run++) {
            random = new Random(run);
            runCalls(run, face);
        }
        System.out.println(wrong == 0 ? "all runs as by the model" : "a run differs from the model");
        System.exit(wrong == 0 ? 0 : 1);
    }

    private static void runCalls(int run, Method[] face) {
        Seatpower program = new Seatpower();
        SeatpowerModel model = new SeatpowerModel();
        StringBuilder log = new StringBuilder();
        for (int call = 0; call < CALLS && wrong == 0; call++) {
            Method method = call < 2 ? named(face, call == 0 ? "members" : "parties") : pick(face);
            Object[] arguments = argumentsOf(method, model);
            if (call < 2) {
                arguments[0] = 1 + (call == 0 ? run : run / 6) % 6;
            }
            Object got = answer(program, method.getName(), method.getParameterTypes(), arguments);
            Object due = answer(model, method.getName(), method.getParameterTypes(), arguments);
            log.append(method.getName()).append(Arrays.toString(arguments)).append(" -> ").append(got).append('\n');
            if (!due.equals(got)) {
                wrong++;
                System.out.println(log);
                System.out.println("run " + run + " call " + call + ": due is " + due);
            }
        }
    }

    /** What is asked of a body, for each body of so many members. */
    private static void compareAllBodies(int members, Method[] face) {
        for (int number = 0; number < 170; number++) {
            Seatpower program = new Seatpower();
            SeatpowerModel model = new SeatpowerModel();
            program.members(members);
            model.members(members);
            compare(program, model, named(face, "make"), 0, number);
            for (int what = 0; what <= 8; what++) {
                compare(program, model, named(face, "ofBody"), 0, what);
            }
            compare(program, model, named(face, "least"), 0, false);
            compare(program, model, named(face, "least"), 0, true);
            compare(program, model, named(face, "weights"), 0);
            compare(program, model, named(face, "trade"), 0);
            for (int member = 0; member < members; member++) {
                for (int kind = 0; kind <= 4; kind++) {
                    compare(program, model, named(face, "power"), 0, member, kind);
                }
            }
        }
    }

    private static void compare(Seatpower program, SeatpowerModel model, Method method, Object... arguments) {
        Object got = answer(program, method.getName(), method.getParameterTypes(), arguments);
        Object due = answer(model, method.getName(), method.getParameterTypes(), arguments);
        if (!due.equals(got)) {
            wrong++;
            System.out.println(method.getName() + Arrays.toString(arguments) + " answered " + got + ", due is " + due);
        }
    }

    private static Method named(Method[] face, String name) {
        return Arrays.stream(face).filter(method -> method.getName().equals(name)).findFirst().orElseThrow();
    }

    private static Method pick(Method[] face) {
        int kind = random.nextInt(100);
        if (kind < 25) {
            return named(face, TELLING.get(random.nextInt(TELLING.size())));
        }
        if (kind < 28) {
            return named(face, SELDOM.get(random.nextInt(SELDOM.size())));
        }
        Method method = face[random.nextInt(face.length)];
        for (int tries = 0; tries < 100 && SELDOM.contains(method.getName()); tries++) {
            method = face[random.nextInt(face.length)];
        }
        return method;
    }

    private static Object answer(Object on, String name, Class<?>[] types, Object[] arguments) {
        try {
            return on.getClass().getMethod(name, types).invoke(on, arguments);
        } catch (InvocationTargetException e) {
            return "throws " + e.getCause().getClass().getSimpleName();
        } catch (ReflectiveOperationException e) {
            return e.toString();
        }
    }

    /** Mostly good ones, by what each place of a call means; only the model is asked, whose calls are not counted. */
    private static Object[] argumentsOf(Method method, SeatpowerModel model) {
        Class<?>[] types = method.getParameterTypes();
        String kinds = kindsOf(method.getName());
        Object[] arguments = new Object[types.length];
        for (int place = 0; place < types.length; place++) {
            arguments[place] = types[place] == boolean.class ? (Object) random.nextBoolean()
                    : (Object) number(kinds.charAt(place), model);
            boolean isPair = place > 0 && kinds.charAt(place) == kinds.charAt(place - 1) && kinds.charAt(place) != 'b';
            for (int tries = 0; tries < 3 && isPair && arguments[place].equals(arguments[place - 1]); tries++) {
                arguments[place] = number(kinds.charAt(place), model);
            }
        }
        return arguments;
    }

    private static String kindsOf(String name) {
        switch (name) {
            case "members": case "parties": return "n";
            case "weight": return "mw";
            case "like": return "mmd";
            case "quarrel": return "mm?";
            case "quota": return "bqh";
            case "none": case "least": case "weights": case "trade": case "held": return "b?";
            case "list": case "wins": return "bg";
            case "join": return "bbb?";
            case "dual": case "same": return "bb";
            case "bloc": return "bgb";
            case "within": return "bmbb";
            case "veto": return "bm";
            case "make": return "bN";
            case "ofBody": return "bd";
            case "swings": return "bm?";
            case "power": return "bmk";
            case "turner": return "bo";
            case "areAlike": return "bmm";
            case "best": return "m";
            case "votes": return "pv";
            case "minimum": return "pM";
            case "bar": return "B";
            case "seats": case "more": return "pxH";
            case "all": case "range": case "missed": return "xH";
            case "odd": return "x";
            case "merged": return "xHpp";
            case "moved": return "xHppv";
            case "share": return "pH";
            case "house": return "d";
            default: return "";
        }
    }

    private static int number(char kind, SeatpowerModel model) {
        if (random.nextInt(60) == 0) {
            int[] odd = {-1, 0, 6, 7, 40, 41, 64, 100, 1000, 10000, Integer.MAX_VALUE, Integer.MIN_VALUE};
            return odd[random.nextInt(odd.length)];
        }
        int members = model.house(0);
        switch (kind) {
            case 'M': return random.nextInt(3) == 0 ? random.nextInt(10) : 0;
            case 'n': return 1 + random.nextInt(6);
            case 'm': return random.nextInt(members);
            case 'p': return random.nextInt(model.house(3));
            case 'b': return random.nextInt(4);
            case 'g': return random.nextInt(1 << members);
            case 'w': return random.nextInt(random.nextBoolean() ? 7 : 100);
            case 'd': return random.nextInt(11);
            case 'q': return Math.max(1, model.house(1) * (4 + random.nextInt(7)) / 10 + random.nextInt(2));
            case 'h': return Math.max(0, random.nextInt(8) - 3);
            case 'N': return random.nextInt(new int[] {3, 6, 20, 168, 9, 9}[members - 1]);
            case 'k': return random.nextInt(5);
            case 'o': return random.nextInt(800);
            case 'v': return random.nextInt(new int[] {12, 100, 1000, 10000}[random.nextInt(4)]);
            case 'B': return random.nextInt(3) == 0 ? random.nextInt(51) : random.nextInt(12);
            case 'x': return random.nextInt(6);
            default: return random.nextInt(41);
        }
    }
}
