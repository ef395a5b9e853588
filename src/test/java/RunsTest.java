import java.lang.reflect.InvocationTargetException;
import java.lang.reflect.Method;
import java.util.Arrays;
import java.util.HashMap;
import java.util.Map;

/**
 * Long runs of calls, drawn by a fixed rule, on the class and on PlainHouse: all answers are the same. Each object gets
 * as many calls as the document promises, and not one more.
 */
public final class RunsTest {
    private static final int RUNS = 240;
    private static final int PROMISED_CALLS = 512;
    private static final int STEPS_BETWEEN_DIGESTS = 50;
    /** The digest, meanConsistency, reopenedIn, and a changedBy of each CONCEPT. */
    private static final int CALLS_TO_COMPARE_ALL = 3 + 12;
    private static final int FOUNDING_STEPS = 50;
    private static final int MOSTLY_VOTES_UNTIL = 120;
    private static final int MOSTLY_WRITES_UNTIL = 190;
    private static final int[] ODD = {-1, Integer.MIN_VALUE, Integer.MAX_VALUE, 100, 1 << 24, -40};
    private static final Map<String, Method> METHODS = new HashMap<>();
    private static final Map<String, Method> PLAIN_METHODS = new HashMap<>();

    private static final String[] FOUNDING = {"concept", "document", "term", "term", "term", "term"};
    private static final String[] CHANGES = {"concept", "term", "document", "split", "split", "join", "prefer",
        "prefer", "prefer", "ban", "ban", "ban", "allow", "allow", "pass", "pass", "pass", "cut", "cut"};
    private static final String[] QUESTIONS = {"ofTerm", "ofConcept", "use", "ofText", "agreement", "many",
        "meanConsistency", "reopenedBy", "reopenedIn", "changedBy", "formFor"};

    private long seed;
    private final GlossaryCrown house = new GlossaryCrown();
    private int calls = 0;
    /** What the next call is drawn by, is asked of this one. */
    private final PlainHouse plain = new PlainHouse();
    /** Few STEMS make many FORMS that could be several TERMS. */
    private final int stems;
    private final int languages;
    private final int domains;
    /** One argument of so many is an odd one. */
    private final int oddness;
    /** One pass of so many is a long one, so that some runs come to the last DAY. */
    private final int haste;

    private RunsTest(int run) {
        seed = run * 7919L + 17;
        stems = 1 + next(run % 3 == 0 ? 20 : 5);
        languages = 1 + next(3);
        domains = 1 + next(4);
        oddness = run % 4 == 0 ? 10 : 60;
        haste = run % 5 == 0 ? 1 : 5;
    }

    public static void main(String[] args) {
        collect(GlossaryCrown.class, METHODS);
        collect(PlainHouse.class, PLAIN_METHODS);
        for (int run = 0; run < RUNS; run++) {
            new RunsTest(run).go(run);
        }
        Due.close("RunsTest");
    }

    private static void collect(Class<?> kind, Map<String, Method> methods) {
        for (Method method : kind.getDeclaredMethods()) {
            methods.put(method.getName(), method);
        }
    }

    private int next(int bound) {
        seed = seed * 6364136223846793005L + 1442695040888963407L;
        return (int) ((seed >>> 33) % bound);
    }

    /** Mostly a number below the bound, now and then one that is just outside, or far outside. */
    private int about(int bound) {
        if (next(oddness) == 0) {
            return next(2) == 0 ? ODD[next(ODD.length)] : bound;
        }
        return next(Math.max(bound, 1));
    }

    private void go(int run) {
        for (int step = 0; calls < PROMISED_CALLS; step++) {
            boolean isDue = step % STEPS_BETWEEN_DIGESTS == STEPS_BETWEEN_DIGESTS - 1;
            if (isDue && calls + CALLS_TO_COMPARE_ALL < PROMISED_CALLS) {
                compareAll("run " + run + ", ahead of step " + step + ": ");
            }
            String name = calls == PROMISED_CALLS - 1 ? "digest" : callAt(step);
            Object[] arguments = argumentsOf(name);
            String got = answer(METHODS.get(name), house, arguments);
            String due = answer(PLAIN_METHODS.get(name), plain, arguments);
            calls++;
            Due.is("run " + run + ", step " + step + ": " + name + Arrays.toString(arguments) + " with " + got
                + " instead of " + due + ": same", got.equals(due) ? 1 : 0, 1);
            if (!got.equals(due)) {
                return;
            }
        }
    }

    /** The digest tells all that it holds; what it leaves out is asked beside it. */
    private void compareAll(String where) {
        Due.is(where + "digest", house.digest(), plain.digest());
        Due.isExactly(where + "meanConsistency", house.meanConsistency(), plain.meanConsistency());
        int days = 1 + next(40);
        Due.is(where + "reopenedIn " + days, house.reopenedIn(days), plain.reopenedIn(days));
        calls += 3;
        int concepts = plain.many(0);
        for (int one = 0; one < concepts; one++) {
            int other = (one + 1 + next(11)) % concepts;
            if (one != other) {
                calls++;
                Due.is(where + "changedBy " + one + ", " + other, house.changedBy(one, other),
                    plain.changedBy(one, other));
            }
        }
    }

    private static String answer(Method method, Object target, Object[] arguments) {
        try {
            return String.valueOf(method.invoke(target, arguments));
        } catch (InvocationTargetException e) {
            return e.getCause().getClass().getName();
        } catch (IllegalAccessException e) {
            throw new IllegalStateException(e);
        }
    }

    private String oneOf(String[] names) {
        return names[next(names.length)];
    }

    /** First come TERMS, then votes, then TEXTS, so that the rest of the run has much to change. */
    private String callAt(int step) {
        if (step < FOUNDING_STEPS) {
            return oneOf(FOUNDING);
        }
        boolean isFree = next(4) == 0 || step >= MOSTLY_WRITES_UNTIL;
        if (!isFree) {
            return step < MOSTLY_VOTES_UNTIL ? "vote" : "write";
        }
        int kind = next(100);
        if (kind < 5) {
            return "vote";
        }
        if (kind < 25) {
            return "write";
        }
        if (kind < 32) {
            return "approve";
        }
        return oneOf(kind < 60 ? CHANGES : QUESTIONS);
    }

    private Object[] argumentsOf(String name) {
        switch (name) {
            case "concept": return new Object[] {about(domains)};
            case "term": return new Object[] {about(plain.many(0)), about(languages), about(stems)};
            case "vote": return new Object[] {termInState(0), about(5), next(10) < 8};
            case "ban": return new Object[] {termInState(1 + next(2)), next(3) == 0 ? 0 : about(next(2) == 0 ? 31 : 5)};
            case "prefer": return new Object[] {termInState(1)};
            case "allow": return new Object[] {termInState(3)};
            case "reopenedBy": return new Object[] {someTerm()};
            case "ofTerm": return new Object[] {someTerm(), about(8)};
            case "ofConcept": return new Object[] {about(plain.many(0)), about(7)};
            case "split": return splitArguments();
            case "join":
            case "changedBy": return new Object[] {about(plain.many(0)), about(plain.many(0))};
            case "write": return writeArguments();
            case "cut":
            case "approve": return new Object[] {someDocument(), about(languages)};
            case "use": return useArguments();
            case "ofText": return new Object[] {someDocument(), about(languages), about(7)};
            case "agreement": return new Object[] {someDocument()};
            case "pass": return new Object[] {next(haste) == 0 ? about(41) : 1 + next(4)};
            case "many": return new Object[] {about(13)};
            case "reopenedIn": return new Object[] {about(41)};
            case "formFor": return formForArguments();
            default: return new Object[0];
        }
    }

    private int someTerm() {
        return about(plain.many(2));
    }

    /** Mostly one in that state, if a few tries find it. */
    private int termInState(int state) {
        int term = someTerm();
        for (int i = 0; i < 8 && next(oddness) != 0; i++) {
            if (term >= 0 && term < plain.many(2) && plain.ofTerm(term, 3) == state) {
                return term;
            }
            term = someTerm();
        }
        return term;
    }

    /** Mostly one of the first two, so that their TEXTS grow. */
    private int someDocument() {
        return about(next(3) == 0 ? plain.many(7) : 2);
    }

    private int lengthOf(int document, int language) {
        boolean isText = document >= 0 && document < plain.many(7) && language >= 0 && language < 3;
        return isText ? plain.ofText(document, language, 0) : 0;
    }

    private Object[] writeArguments() {
        int document = someDocument();
        int language = about(languages);
        int length = lengthOf(document, language);
        int place = next(3) == 0 ? about(length + 1) : length;
        return new Object[] {document, language, place, about(next(4) == 0 ? 80 : 4 * stems)};
    }

    private Object[] useArguments() {
        int document = someDocument();
        int language = about(languages);
        return new Object[] {document, language, about(lengthOf(document, language))};
    }

    private Object[] formForArguments() {
        int document = someDocument();
        int language = about(languages);
        return new Object[] {document, language, about(lengthOf(document, language) + 1), someTerm()};
    }

    /** Mostly one with several TERMS, if a few tries find it. */
    private int someConceptToSplit() {
        int concept = about(plain.many(0));
        for (int i = 0; i < 4; i++) {
            if (concept >= 0 && concept < plain.many(0) && plain.ofConcept(concept, 1) < 2) {
                concept = about(plain.many(0));
            }
        }
        return concept;
    }

    /** Mostly some of the TERMS of that CONCEPT. */
    private Object[] splitArguments() {
        int concept = someConceptToSplit();
        int set = about(1 << 24);
        if (next(8) != 0) {
            for (int term = 0; term < 24; term++) {
                if (term >= plain.many(2) || plain.ofTerm(term, 0) != concept) {
                    set &= ~(1 << term);
                }
            }
        }
        return new Object[] {concept, set, about(domains)};
    }
}
