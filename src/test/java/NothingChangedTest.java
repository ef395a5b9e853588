import java.util.ArrayList;
import java.util.List;

/**
 * "A method that throws an exception changes nothing", and questions change nothing. Of two equal houses one is called
 * so; then both are taken apart, call by call, so that also what no question tells (who voted, which FORM stands where,
 * which GRACE is left) must be the same.
 */
public final class NothingChangedTest {
    private static final int TERMS = 9;
    private static final int CONCEPTS = 4;
    private static final int DOCUMENTS = 3;

    /** A call of a house, with its answer. */
    private interface Call {
        long on(GlossaryCrown house);
    }

    public static void main(String[] args) {
        refusedIndexes();
        refusedArguments();
        refusedStates();
        questions();
        questionsWhatWouldBe();
        Due.close("NothingChangedTest");
    }

    /** On DAY 3: TERMS and TEXTS in each state, a FORM that could be two TERMS, a TEXT that is full. */
    private static GlossaryCrown furnished() {
        GlossaryCrown house = Houses.of(0, 1, 2, 0);
        Houses.preferred(house, 0, 0, 0);
        Houses.admitted(house, 1, 0, 0);
        Houses.admitted(house, 0, 0, 1);
        Houses.admitted(house, 1, 0, 2);
        house.term(0, 0, 3);
        house.term(1, 0, 3);
        Houses.admitted(house, 2, 1, 0);
        Houses.admitted(house, 2, 0, 5);
        Houses.preferred(house, 2, 2, 19);
        house.vote(4, 0, true);
        house.vote(4, 1, true);
        house.vote(4, 2, false);
        house.vote(5, 4, false);
        house.vote(5, 3, false);
        Houses.documents(house, DOCUMENTS);
        Houses.write(house, 0, 0, 0, 4, 1, 61);
        Houses.write(house, 0, 1, 2);
        Houses.write(house, 1, 0, 8, 0, 13);
        Houses.write(house, 1, 2, 77);
        Houses.write(house, 2, 0, 20);
        for (int place = 0; place < 12; place++) {
            house.write(2, 1, place, 40 + place);
        }
        house.approve(0, 0);
        house.approve(0, 1);
        house.approve(1, 0);
        house.approve(2, 0);
        house.pass(3);
        house.ban(3, 5);
        house.ban(7, 0);
        return house;
    }

    private static String answer(GlossaryCrown house, Call call) {
        try {
            return String.valueOf(call.on(house));
        } catch (IllegalArgumentException | IllegalStateException | IndexOutOfBoundsException e) {
            return e.getClass().getName();
        }
    }

    /** Takes a house apart, and tells what it answers. */
    private static List<String> apart(GlossaryCrown house) {
        List<String> answers = new ArrayList<>();
        answers.add("digest " + house.digest() + " and " + house.meanConsistency());
        for (int voter = 0; voter < 5; voter++) {
            int number = voter;
            answers.add("vote 4, " + voter + ": " + answer(house, x -> x.vote(4, number, true)));
            answers.add("vote 5, " + voter + ": " + answer(house, x -> x.vote(5, number, false)));
        }
        for (int day = 0; day < 6; day++) {
            answers.add("pass: " + house.pass(1));
        }
        for (int term = 0; term < TERMS; term++) {
            int number = term;
            answers.add("allow " + term + ": " + answer(house, x -> x.allow(number)));
            answers.add("ban " + term + ": " + answer(house, x -> x.ban(number, 0)));
        }
        for (int text = 0; text < 3 * DOCUMENTS; text++) {
            int document = text / 3;
            int language = text % 3;
            for (int form = house.ofText(document, language, 0); form >= 0; form--) {
                answers.add("cut " + text + ": " + answer(house, x -> x.cut(document, language)));
            }
        }
        answers.add("next: " + house.concept(0) + ", " + house.term(3, 0, 0) + ", " + house.document());
        answers.add("digest " + house.digest());
        return answers;
    }

    private static void isAsATwin(String when, GlossaryCrown house) {
        List<String> due = apart(furnished());
        List<String> seen = apart(house);
        Due.is(when + ", answers", seen.size(), due.size());
        for (int i = 0; i < Math.min(seen.size(), due.size()); i++) {
            String text = when + ": " + seen.get(i) + " instead of " + due.get(i) + ": same";
            Due.is(text, seen.get(i).equals(due.get(i)) ? 1 : 0, 1);
        }
    }

    private static void areRefused(Class<?> exception, Call... calls) {
        GlossaryCrown house = furnished();
        for (int i = 0; i < calls.length; i++) {
            boolean isRefused = answer(house, calls[i]).equals(exception.getName());
            Due.is(exception.getSimpleName() + " of call " + i, isRefused ? 1 : 0, 1);
        }
        isAsATwin("behind calls with " + exception.getSimpleName(), house);
    }

    private static void refusedIndexes() {
        areRefused(IndexOutOfBoundsException.class,
            x -> x.term(4, 0, 9), x -> x.term(-1, 0, 9), x -> x.term(0, 3, 9), x -> x.term(0, -1, 9),
            x -> x.vote(9, 0, true), x -> x.vote(-1, 0, true), x -> x.vote(4, 5, true), x -> x.vote(4, -1, false),
            x -> x.prefer(9), x -> x.prefer(-1), x -> x.ban(9, 0), x -> x.ban(-1, 0), x -> x.allow(9), x -> x.allow(-1),
            x -> x.ofTerm(9, 0), x -> x.ofTerm(-1, 0), x -> x.ofConcept(4, 0), x -> x.ofConcept(-1, 0),
            x -> x.split(4, 1, 0), x -> x.split(-1, 1, 0),
            x -> x.join(0, 4), x -> x.join(4, 0), x -> x.join(-1, 0), x -> x.join(0, -1), x -> x.join(4, 4),
            x -> x.write(3, 0, 0, 0), x -> x.write(-1, 0, 0, 0), x -> x.write(1, 3, 0, 0), x -> x.write(1, -1, 0, 0),
            x -> x.write(1, 2, 2, 0), x -> x.write(1, 2, -1, 0), x -> x.write(2, 1, 12, 0), x -> x.write(1, 1, 1, 0),
            x -> x.cut(3, 0), x -> x.cut(-1, 0), x -> x.cut(1, 3), x -> x.cut(1, -1),
            x -> x.approve(3, 0), x -> x.approve(-1, 0), x -> x.approve(1, 3), x -> x.approve(1, -1),
            x -> x.use(3, 0, 0), x -> x.use(0, 3, 0), x -> x.use(0, 0, 4), x -> x.use(2, 1, 12), x -> x.use(0, 0, -1),
            x -> x.ofText(3, 0, 0), x -> x.ofText(0, 3, 0), x -> x.agreement(3), x -> x.agreement(-1),
            x -> x.reopenedBy(9), x -> x.reopenedBy(-1), x -> x.changedBy(0, 4), x -> x.changedBy(-1, 0),
            x -> x.formFor(3, 0, 0, 0), x -> x.formFor(0, 3, 0, 0), x -> x.formFor(0, 0, 5, 0),
            x -> x.formFor(2, 1, 12, 6), x -> x.formFor(0, 0, 0, 9), x -> x.formFor(0, 0, 0, -1));
    }

    private static void refusedArguments() {
        areRefused(IllegalArgumentException.class,
            x -> x.concept(4), x -> x.concept(-1), x -> x.term(3, 0, 20), x -> x.term(3, 0, -1),
            x -> x.ban(0, 31), x -> x.ban(2, -1), x -> x.ban(4, 31),
            x -> x.ofTerm(0, 8), x -> x.ofTerm(0, -1), x -> x.ofConcept(0, 7), x -> x.ofConcept(0, -1),
            x -> x.split(0, 0, 0), x -> x.split(0, -1, 0), x -> x.split(0, Integer.MIN_VALUE, 0),
            x -> x.split(0, 1 | 2, 0), x -> x.split(0, 1 | 4 | 16, 0), x -> x.split(0, 1 | 1 << 9, 0),
            x -> x.split(3, 1, 0), x -> x.split(0, 1, 4), x -> x.split(0, 1, -1),
            x -> x.join(0, 0), x -> x.join(3, 3),
            x -> x.write(1, 2, 0, 80), x -> x.write(1, 2, 1, -1), x -> x.write(0, 0, 0, 80),
            x -> x.ofText(0, 0, 7), x -> x.ofText(0, 0, -1),
            x -> x.pass(0), x -> x.pass(41), x -> x.pass(-1), x -> x.pass(Integer.MAX_VALUE),
            x -> x.many(13), x -> x.many(-1), x -> x.reopenedIn(0), x -> x.reopenedIn(41), x -> x.reopenedIn(-1),
            x -> x.changedBy(0, 0), x -> x.changedBy(3, 3));
    }

    private static void refusedStates() {
        areRefused(IllegalStateException.class,
            x -> x.term(0, 0, 0), x -> x.term(0, 0, 3), x -> x.term(1, 0, 2), x -> x.term(2, 2, 19),
            x -> x.vote(0, 3, true), x -> x.vote(1, 3, true), x -> x.vote(3, 3, true),
            x -> x.vote(4, 0, true), x -> x.vote(4, 2, true), x -> x.vote(5, 4, true), x -> x.vote(5, 3, false),
            x -> x.prefer(0), x -> x.prefer(3), x -> x.prefer(4),
            x -> x.ban(3, 0), x -> x.ban(7, 30), x -> x.ban(4, 0), x -> x.allow(0), x -> x.allow(1), x -> x.allow(4),
            x -> x.join(0, 1), x -> x.join(1, 0),
            x -> x.write(0, 0, 3, 62), x -> x.write(0, 0, 4, 62), x -> x.write(1, 0, 0, 62),
            x -> x.cut(0, 0), x -> x.cut(1, 0), x -> x.cut(1, 1),
            x -> x.approve(0, 0), x -> x.approve(1, 0), x -> x.approve(1, 1), x -> x.approve(2, 0));
    }

    private static void questions() {
        GlossaryCrown house = furnished();
        for (int term = 0; term < TERMS; term++) {
            for (int what = 0; what < 8; what++) {
                house.ofTerm(term, what);
            }
        }
        for (int concept = 0; concept < CONCEPTS; concept++) {
            for (int what = 0; what < 7; what++) {
                house.ofConcept(concept, what);
            }
        }
        for (int text = 0; text < 3 * DOCUMENTS; text++) {
            int length = house.ofText(text / 3, text % 3, 0);
            for (int what = 1; what < 7; what++) {
                house.ofText(text / 3, text % 3, what);
            }
            for (int place = 0; place < length; place++) {
                house.use(text / 3, text % 3, place);
            }
            house.agreement(text / 3);
        }
        for (int what = 0; what < 13; what++) {
            house.many(what);
        }
        house.meanConsistency();
        house.digest();
        isAsATwin("behind questions", house);
    }

    // "---- what would be (nothing is changed)"
    private static void questionsWhatWouldBe() {
        GlossaryCrown house = furnished();
        for (int term = 0; term < TERMS; term++) {
            house.reopenedBy(term);
            for (int text = 0; text < 3 * DOCUMENTS; text++) {
                house.formFor(text / 3, text % 3, 0, term);
            }
            house.formFor(0, 0, 4, term);
            house.formFor(2, 1, 11, term);
        }
        for (int days = 1; days <= 40; days++) {
            house.reopenedIn(days);
        }
        for (int one = 0; one < CONCEPTS; one++) {
            for (int other = 0; other < CONCEPTS; other++) {
                if (one != other) {
                    house.changedBy(one, other);
                }
            }
        }
        isAsATwin("behind what would be", house);
    }
}
