import java.lang.reflect.InvocationTargetException;
import java.lang.reflect.Method;
import java.util.Arrays;
import java.util.HashMap;
import java.util.Map;

/** Long runs of calls, drawn by a fixed rule, on the class and on PlainHouse: all answers are the same. */
public final class RunsTest {
    private static final int RUNS = 600;
    private static final int CALLS = 480;
    private static final int CALLS_BETWEEN_DIGESTS = 40;
    private static final int FOUNDING_CALLS = 40;
    private static final int[] ODD = {-1, Integer.MIN_VALUE, Integer.MAX_VALUE, 100, 1 << 24, -40};
    private static final Map<String, Method> METHODS = new HashMap<>();
    private static final Map<String, Method> PLAIN_METHODS = new HashMap<>();

    private static final String[] FOUNDING = {"concept", "document", "term", "term"};
    private static final String[] CHANGES = {"concept", "term", "document", "split", "join", "prefer", "prefer",
        "ban", "ban", "ban", "allow", "allow", "pass", "cut", "cut"};
    private static final String[] QUESTIONS = {"ofTerm", "ofConcept", "use", "ofText", "agreement", "many",
        "meanConsistency", "reopenedBy", "reopenedIn", "changedBy", "formFor"};

    private long seed;
    private final GlossaryCrown house = new GlossaryCrown();
    private final PlainHouse plain = new PlainHouse();
    /** Few STEMS make many FORMS that could be several TERMS. */
    private final int stems;
    private final int languages;
    private final int domains;
    /** One argument of so many is an odd one. */
    private final int oddness;

    private RunsTest(int run) {
        seed = run * 7919L + 17;
        stems = 1 + next(run % 3 == 0 ? 20 : 5);
        languages = 1 + next(3);
        domains = 1 + next(4);
        oddness = run % 4 == 0 ? 10 : 60;
    }

    public static void main(String[] args) {
        collect(GlossaryCrown.class, METHODS);
        collect(PlainHouse.class, PLAIN_METHODS);
        for (int run = 0; run < RUNS; run++) {
            new RunsTest(run).go(run);
        }
        Due.close("RunsTest");
    }

    private static void collect(Class<?> kind, Map<String, Method> methods) {
        for (Method method : kind.getDeclaredMethods()) {
            methods.put(method.getName(), method);
        }
    }

    private int next(int bound) {
        seed = seed * 6364136223846793005L + 1442695040888963407L;
        return (int) ((seed >>> 33) % bound);
    }

    /** Mostly a number below the bound, now and then one that is just outside, or far outside. */
    private int about(int bound) {
        if (next(oddness) == 0) {
            return next(2) == 0 ? ODD[next(ODD.length)] : bound;
        }
        return next(Math.max(bound, 1));
    }

    private void go(int run) {
        for (int i = 0; i < CALLS; i++) {
            String name = i < FOUNDING_CALLS ? oneOf(FOUNDING) : anyCall();
            Object[] arguments = argumentsOf(name);
            String got = answer(METHODS.get(name), house, arguments);
            String due = answer(PLAIN_METHODS.get(name), plain, arguments);
            Due.is("run " + run + ", call " + i + ": " + name + Arrays.toString(arguments) + " with " + got
                + " instead of " + due + ": same", got.equals(due) ? 1 : 0, 1);
            if (i % CALLS_BETWEEN_DIGESTS == CALLS_BETWEEN_DIGESTS - 1) {
                Due.is("run " + run + ", digest behind call " + i, house.digest(), plain.digest());
            }
            if (!got.equals(due)) {
                return;
            }
        }
    }

    private static String answer(Method method, Object target, Object[] arguments) {
        try {
            return String.valueOf(method.invoke(target, arguments));
        } catch (InvocationTargetException e) {
            return e.getCause().getClass().getName();
        } catch (IllegalAccessException e) {
            throw new IllegalStateException(e);
        }
    }

    private String oneOf(String[] names) {
        return names[next(names.length)];
    }

    private String anyCall() {
        int kind = next(100);
        if (kind < 22) {
            return "vote";
        }
        if (kind < 48) {
            return "write";
        }
        if (kind < 58) {
            return "approve";
        }
        return oneOf(kind < 76 ? CHANGES : QUESTIONS);
    }

    private Object[] argumentsOf(String name) {
        switch (name) {
            case "concept": return new Object[] {about(domains)};
            case "term": return new Object[] {about(house.many(0)), about(languages), about(stems)};
            case "vote": return new Object[] {someTerm(), about(5), next(10) < 8};
            case "ban": return new Object[] {someTerm(), next(3) == 0 ? 0 : about(31)};
            case "prefer":
            case "allow":
            case "reopenedBy": return new Object[] {someTerm()};
            case "ofTerm": return new Object[] {someTerm(), about(8)};
            case "ofConcept": return new Object[] {about(house.many(0)), about(7)};
            case "split": return splitArguments();
            case "join":
            case "changedBy": return new Object[] {about(house.many(0)), about(house.many(0))};
            case "write": return new Object[] {someDocument(), about(languages), somePlace(), about(4 * stems + 4)};
            case "cut":
            case "approve": return new Object[] {someDocument(), about(languages)};
            case "use": return new Object[] {someDocument(), about(languages), about(8)};
            case "ofText": return new Object[] {someDocument(), about(languages), about(7)};
            case "agreement": return new Object[] {someDocument()};
            case "pass": return new Object[] {next(4) == 0 ? about(41) : 1 + next(6)};
            case "many": return new Object[] {about(13)};
            case "reopenedIn": return new Object[] {about(41)};
            case "formFor": return new Object[] {someDocument(), about(languages), somePlace(), someTerm()};
            default: return new Object[0];
        }
    }

    private int someTerm() {
        return about(house.many(2));
    }

    /** Mostly one of the first three, so that their TEXTS grow. */
    private int someDocument() {
        return about(next(6) == 0 ? house.many(7) : 3);
    }

    private int somePlace() {
        return about(next(2) == 0 ? 13 : 4);
    }

    /** Mostly some of the TERMS of that CONCEPT. */
    private Object[] splitArguments() {
        int concept = about(house.many(0));
        int set = about(1 << 24);
        if (next(8) != 0) {
            for (int term = 0; term < 24; term++) {
                if (term >= house.many(2) || house.ofTerm(term, 0) != concept) {
                    set &= ~(1 << term);
                }
            }
        }
        return new Object[] {concept, set, about(domains)};
    }
}
