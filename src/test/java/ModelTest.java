import java.lang.reflect.InvocationTargetException;
import java.lang.reflect.Method;
import java.util.Arrays;
import java.util.Comparator;
import java.util.List;
import java.util.Random;

/** Runs of 512 calls, with good and with wrong arguments, on Seatpower and on the slow model of the document. */
public final class ModelTest {
    private static final int RUNS = 240;
    private static final int CALLS = 512;
    private static final List<String> TELLING = List.of("weight", "like", "quarrel", "quota", "list", "votes", "minimum");
    private static final List<String> SELDOM = List.of("members", "parties", "none", "isSound", "digest");

    private static Random random;
    private static int wrong = 0;

    public static void main(String[] args) {
        Method[] face = Arrays.stream(Seatpower.class.getDeclaredMethods())
                .filter(method -> java.lang.reflect.Modifier.isPublic(method.getModifiers()))
                .sorted(Comparator.comparing(Method::getName)).toArray(Method[]::new);
        for (int run = 0; run < RUNS && wrong == 0; run++) {
            random = new Random(run);
            runCalls(run, face);
        }
        System.out.println(wrong == 0 ? "all runs as by the model" : "a run differs from the model");
        System.exit(wrong == 0 ? 0 : 1);
    }

    private static void runCalls(int run, Method[] face) {
        Seatpower program = new Seatpower();
        SeatpowerModel model = new SeatpowerModel();
        StringBuilder log = new StringBuilder();
        for (int call = 0; call < CALLS && wrong == 0; call++) {
            Method method = pick(face);
            Object[] arguments = argumentsOf(method, program);
            Object got = answer(program, method.getName(), method.getParameterTypes(), arguments);
            Object due = answer(model, method.getName(), method.getParameterTypes(), arguments);
            log.append(method.getName()).append(Arrays.toString(arguments)).append(" -> ").append(got).append('\n');
            if (!due.equals(got)) {
                wrong++;
                System.out.println(log);
                System.out.println("run " + run + " call " + call + ": due is " + due);
            }
        }
    }

    private static Method pick(Method[] face) {
        Method method = face[random.nextInt(face.length)];
        int kind = random.nextInt(3);
        for (int tries = 0; tries < 40 && kind == 0 && !TELLING.contains(method.getName()); tries++) {
            method = face[random.nextInt(face.length)];
        }
        for (int tries = 0; tries < 2 && SELDOM.contains(method.getName()); tries++) {
            method = face[random.nextInt(face.length)];
        }
        return method;
    }

    private static Object answer(Object on, String name, Class<?>[] types, Object[] arguments) {
        try {
            return on.getClass().getMethod(name, types).invoke(on, arguments);
        } catch (InvocationTargetException e) {
            return "throws " + e.getCause().getClass().getSimpleName();
        } catch (ReflectiveOperationException e) {
            return e.toString();
        }
    }

    /** Mostly good ones, by what each place of a call means. */
    private static Object[] argumentsOf(Method method, Seatpower program) {
        Class<?>[] types = method.getParameterTypes();
        String kinds = kindsOf(method.getName());
        Object[] arguments = new Object[types.length];
        for (int place = 0; place < types.length; place++) {
            arguments[place] = types[place] == boolean.class ? (Object) random.nextBoolean()
                    : (Object) number(kinds.charAt(place), program);
        }
        return arguments;
    }

    private static String kindsOf(String name) {
        switch (name) {
            case "members": case "parties": return "n";
            case "weight": return "mw";
            case "like": return "mmd";
            case "quarrel": return "mm?";
            case "quota": return "bqh";
            case "none": case "least": case "weights": case "trade": case "held": return "b?";
            case "list": case "wins": return "bg";
            case "join": return "bbb?";
            case "dual": case "same": return "bb";
            case "bloc": return "bgb";
            case "within": return "bmbb";
            case "veto": return "bm";
            case "make": return "bN";
            case "ofBody": return "bd";
            case "swings": return "bm?";
            case "power": return "bmk";
            case "turner": return "bo";
            case "areAlike": return "bmm";
            case "best": return "m";
            case "votes": return "pv";
            case "minimum": return "pM";
            case "bar": return "B";
            case "seats": case "more": return "pxH";
            case "all": case "range": case "missed": return "xH";
            case "odd": return "x";
            case "merged": return "xHpp";
            case "moved": return "xHppv";
            case "share": return "pH";
            case "house": return "d";
            default: return "";
        }
    }

    private static int number(char kind, Seatpower program) {
        if (random.nextInt(60) == 0) {
            int[] odd = {-1, 0, 6, 7, 40, 41, 64, 100, 1000, 10000, Integer.MAX_VALUE, Integer.MIN_VALUE};
            return odd[random.nextInt(odd.length)];
        }
        int members = program.house(0);
        switch (kind) {
            case 'n': return 1 + random.nextInt(6);
            case 'm': return random.nextInt(members);
            case 'p': return random.nextInt(program.house(3));
            case 'b': return random.nextInt(4);
            case 'g': return random.nextInt(1 << members);
            case 'w': return random.nextInt(random.nextBoolean() ? 7 : 100);
            case 'd': return random.nextInt(11);
            case 'q': return Math.max(1, program.house(1) * (4 + random.nextInt(7)) / 10 + random.nextInt(2));
            case 'h': return Math.max(0, random.nextInt(8) - 3);
            case 'N': return random.nextInt(new int[] {3, 6, 20, 168, 9, 9}[members - 1]);
            case 'k': return random.nextInt(5);
            case 'o': return random.nextInt(800);
            case 'v': return random.nextInt(random.nextBoolean() ? 30 : 10000);
            case 'M': return Math.max(0, random.nextInt(14) - 4);
            case 'B': return Math.max(0, random.nextInt(61) - 10);
            case 'x': return random.nextInt(6);
            default: return random.nextInt(41);
        }
    }
}
