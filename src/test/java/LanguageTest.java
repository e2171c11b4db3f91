import java.io.IOException;
import java.lang.management.ManagementFactory;
import java.lang.reflect.Constructor;
import java.lang.reflect.Method;
import java.lang.reflect.Modifier;
import java.nio.file.Files;
import java.nio.file.Path;
import java.util.Arrays;
import java.util.Set;
import java.util.TreeSet;
import java.util.stream.Collectors;

/** The face, letter by letter; the rules of ../shared/LANGUAGE.md; and how much the dearest call makes. */
public final class LanguageTest {
    private static final String FACE = """
            int members(int) throws IllegalArgumentException
            int weight(int,int) throws IndexOutOfBoundsException,IllegalArgumentException
            int like(int,int,int) throws IndexOutOfBoundsException,IllegalArgumentException
            int quarrel(int,int,boolean) throws IndexOutOfBoundsException,IllegalArgumentException
            int quota(int,int,int) throws IndexOutOfBoundsException,IllegalArgumentException
            int none(int) throws IndexOutOfBoundsException
            int list(int,int) throws IndexOutOfBoundsException,IllegalArgumentException
            int join(int,int,int,boolean) throws IndexOutOfBoundsException
            int dual(int,int) throws IndexOutOfBoundsException
            int bloc(int,int,int) throws IndexOutOfBoundsException,IllegalArgumentException
            int within(int,int,int,int) throws IndexOutOfBoundsException
            int veto(int,int) throws IndexOutOfBoundsException
            int make(int,int) throws IndexOutOfBoundsException,IllegalArgumentException
            boolean wins(int,int) throws IndexOutOfBoundsException,IllegalArgumentException
            int ofBody(int,int) throws IndexOutOfBoundsException,IllegalArgumentException
            String least(int,boolean) throws IndexOutOfBoundsException
            int swings(int,int,boolean) throws IndexOutOfBoundsException
            String power(int,int,int) throws IndexOutOfBoundsException,IllegalArgumentException
            int turner(int,int) throws IndexOutOfBoundsException,IllegalArgumentException
            boolean same(int,int) throws IndexOutOfBoundsException
            boolean areAlike(int,int,int) throws IndexOutOfBoundsException
            String weights(int) throws IndexOutOfBoundsException
            String trade(int) throws IndexOutOfBoundsException
            int best(int) throws IndexOutOfBoundsException
            int held(int) throws IndexOutOfBoundsException
            int parties(int) throws IllegalArgumentException
            int votes(int,int) throws IndexOutOfBoundsException,IllegalArgumentException
            int minimum(int,int) throws IndexOutOfBoundsException,IllegalArgumentException
            int bar(int) throws IllegalArgumentException
            int undo() throws IllegalStateException
            int seats(int,int,int) throws IndexOutOfBoundsException,IllegalArgumentException
            String all(int,int) throws IllegalArgumentException
            String range(int,int) throws IllegalArgumentException
            String odd(int) throws IllegalArgumentException
            String merged(int,int,int,int) throws IndexOutOfBoundsException,IllegalArgumentException
            String moved(int,int,int,int,int) throws IndexOutOfBoundsException,IllegalArgumentException
            int missed(int,int) throws IllegalArgumentException
            int more(int,int,int) throws IndexOutOfBoundsException,IllegalArgumentException
            String share(int,int) throws IndexOutOfBoundsException,IllegalArgumentException
            int house(int) throws IllegalArgumentException
            int knock() throws 
            boolean isSound() throws 
            long digest() throws 
            """;
    private static final int DIGESTS = 480;
    private static final long MOST_BYTES = 2_000_000;
    private static final int LONGEST_LINE = 120;

    private static int wrong = 0;

    private static void check(boolean isGood, String what) {
        if (!isGood) {
            wrong++;
            System.out.println(what);
        }
    }

    public static void main(String[] args) throws IOException {
        checkFace();
        checkSource(Path.of("src/main/java/Seatpower.java"));
        checkRoom();
        System.out.println(wrong == 0 ? "the language is kept" : wrong + " rules are broken");
        System.exit(wrong == 0 ? 0 : 1);
    }

    private static void checkFace() {
        Set<String> due = new TreeSet<>(FACE.lines().map(String::strip).toList());
        Set<String> got = new TreeSet<>();
        Set<String> publicNames = new TreeSet<>();
        for (Method method : Seatpower.class.getDeclaredMethods()) {
            if (Modifier.isPublic(method.getModifiers())) {
                got.add(told(method).strip());
                publicNames.add(method.getName());
            }
        }
        check(got.equals(due), "the face differs: " + got);
        check(Modifier.isFinal(Seatpower.class.getModifiers()), "the class is not final");
        for (Constructor<?> constructor : Seatpower.class.getDeclaredConstructors()) {
            check(Modifier.isPublic(constructor.getModifiers()) && constructor.getParameterCount() == 0,
                    "a constructor that the document lacks");
        }
        check(Seatpower.class.getFields().length == 0, "a public field");
        checkHidden(Seatpower.class, publicNames);
        Class<?>[] inside = Seatpower.class.getDeclaredClasses();
        check(inside.length <= 12, "too many classes");
        for (Class<?> one : inside) {
            check(Modifier.isStatic(one.getModifiers()), one + " is not static");
            checkHidden(one, publicNames);
        }
    }

    private static String told(Method method) {
        return method.getReturnType().getSimpleName() + " " + method.getName() + "("
                + Arrays.stream(method.getParameterTypes()).map(Class::getSimpleName).collect(Collectors.joining(","))
                + ") throws " + Arrays.stream(method.getExceptionTypes()).map(Class::getSimpleName)
                .collect(Collectors.joining(","));
    }

    private static void checkHidden(Class<?> one, Set<String> publicNames) {
        long fields = Arrays.stream(one.getDeclaredFields())
                .filter(field -> !Modifier.isStatic(field.getModifiers())).count();
        check(fields <= 20, one + " has too many fields");
        for (Method method : one.getDeclaredMethods()) {
            boolean isFace = one == Seatpower.class && Modifier.isPublic(method.getModifiers());
            check(isFace || !publicNames.contains(method.getName()), "a hidden " + method.getName());
            check(isFace || one != Seatpower.class || Modifier.isPrivate(method.getModifiers()),
                    method.getName() + " is not private");
            check(method.getParameterCount() <= 7, method.getName() + " takes too much");
        }
        Arrays.stream(one.getDeclaredFields()).filter(field -> Modifier.isStatic(field.getModifiers()))
                .forEach(field -> check(Modifier.isFinal(field.getModifiers()), field + " is not final"));
    }

    private static void checkSource(Path source) throws IOException {
        SourceRules.brokenIn(source).forEach(rule -> check(false, rule));
        for (String line : Files.readAllLines(source)) {
            check(line.length() <= LONGEST_LINE, "a long line: " + line);
            check(line.chars().allMatch(sign -> sign > 0 && sign < 128), "a strange sign: " + line);
        }
    }

    /** All calls of one run live in one room. */
    private static void checkRoom() {
        Seatpower x = new Seatpower();
        x.members(5);
        x.parties(6);
        for (int party = 0; party < 6; party++) {
            x.votes(party, 1000 - 7 * party * party);
        }
        for (int body = 0; body < 4; body++) {
            x.list(body, 3 + body);
            x.list(body, 24);
        }
        if (!(ManagementFactory.getThreadMXBean() instanceof com.sun.management.ThreadMXBean counter)) {
            return;
        }
        x.digest();
        long before = counter.getThreadAllocatedBytes(Thread.currentThread().getId());
        for (int call = 0; call < DIGESTS; call++) {
            x.digest();
        }
        long made = counter.getThreadAllocatedBytes(Thread.currentThread().getId()) - before;
        check(made < MOST_BYTES, "digests make " + made + " bytes");
    }
}
