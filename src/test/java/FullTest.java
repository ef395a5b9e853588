/**
 * A house that is full: every number that the document allows is there, and each call is made in it. The questions are
 * many, so that they are shared out among several such houses: no object gets more calls than the document promises.
 */
public final class FullTest {
    private static final Class<?> STATE = Houses.STATE;
    private static final int CONCEPTS = 12;
    private static final int TERMS = 24;
    private static final int TEXTS = 18;
    private static final int QUESTIONS = CONCEPTS * CONCEPTS + TEXTS * TERMS;
    private static final int QUESTIONS_A_HOUSE = 144;
    private static final int STAGES = 6;

    private final GlossaryCrown house = new GlossaryCrown();
    private final PlainHouse plain = new PlainHouse();

    public static void main(String[] args) {
        new FullTest().refuse();
        for (int stage = 0; stage < STAGES; stage++) {
            for (int from = 0; from < QUESTIONS; from += QUESTIONS_A_HOUSE) {
                FullTest test = new FullTest();
                test.furnish();
                for (int i = 1; i <= stage; i++) {
                    test.change(i);
                }
                test.compare("stage " + stage, from);
            }
        }
        Due.close("FullTest");
    }

    private void refuse() {
        furnish();
        Due.fails("a 13th concept", house, STATE, () -> house.concept(0));
        Due.fails("a 25th term", house, STATE, () -> house.term(0, 0, 0));
        Due.fails("a 7th document", house, STATE, () -> house.document());
        Due.fails("no room to split", house, STATE, () -> house.split(11, 1 << 23, 0));
        Due.fails("a 13th form", house, Houses.INDEX, () -> house.write(5, 2, 12, 0));
        Due.fails("a place for a 13th form", house, Houses.INDEX, () -> house.formFor(5, 2, 12, 0));
    }

    private void change(int stage) {
        switch (stage) {
            case 1:
                Due.is("prefer", house.prefer(TERMS - 1), plain.prefer(TERMS - 1));
                Due.is("approve the last", house.approve(5, 2), plain.approve(5, 2));
                Due.is("approve the first", house.approve(0, 0), plain.approve(0, 0));
                Due.is("approve its neighbour", house.approve(0, 1), plain.approve(0, 1));
                break;
            case 2:
                Due.is("join", house.join(11, 10), plain.join(11, 10));
                break;
            case 3:
                Due.is("ban the last", house.ban(TERMS - 1, 2), plain.ban(TERMS - 1, 2));
                Due.is("ban the first", house.ban(0, 0), plain.ban(0, 0));
                break;
            case 4:
                Due.is("pass", house.pass(40), plain.pass(40));
                break;
            default:
                Due.is("allow", house.allow(TERMS - 1), plain.allow(TERMS - 1));
                Due.is("cut", house.cut(5, 2), plain.cut(5, 2));
                break;
        }
    }

    /** Each CONCEPT has two TERMS; four STEMS stand for three of them each. */
    private void furnish() {
        for (int concept = 0; concept < CONCEPTS; concept++) {
            Due.is("concept", house.concept(concept % 4), plain.concept(concept % 4));
        }
        for (int term = 0; term < TERMS; term++) {
            int language = term < 18 ? 0 : 2;
            int stem = term < 12 ? term % 4 : term - 4;
            Due.is("term", house.term(term % 12, language, stem), plain.term(term % 12, language, stem));
            for (int voter = 2; voter < 5; voter++) {
                Due.is("vote", house.vote(term, voter, true), plain.vote(term, voter, true));
            }
        }
        for (int text = 0; text < TEXTS; text++) {
            if (text % 3 == 0) {
                Due.is("document", house.document(), plain.document());
            }
            for (int place = 0; place < 12; place++) {
                int form = place % 3 == 0 ? 3 + 4 * (place / 3) : 4 * ((text + place) % 20);
                Due.is("write", house.write(text / 3, text % 3, place, form),
                    plain.write(text / 3, text % 3, place, form));
            }
        }
    }

    private void compare(String when, int from) {
        Due.is(when + ", digest", house.digest(), plain.digest());
        Due.isExactly(when + ", meanConsistency", house.meanConsistency(), plain.meanConsistency());
        for (int question = from; question < from + QUESTIONS_A_HOUSE && question < QUESTIONS; question++) {
            if (question < CONCEPTS * CONCEPTS) {
                compareChangedBy(when, question / CONCEPTS, question % CONCEPTS);
            } else {
                int number = question - CONCEPTS * CONCEPTS;
                compareFormFor(when, number / TERMS, number % TERMS);
            }
        }
    }

    private void compareChangedBy(String when, int one, int other) {
        if (one != other) {
            Due.is(when + ", changedBy " + one + ", " + other, house.changedBy(one, other),
                plain.changedBy(one, other));
        }
    }

    private void compareFormFor(String when, int text, int term) {
        int place = (text + term) % 11;
        Due.is(when + ", formFor " + text + ", " + place + ", " + term,
            house.formFor(text / 3, text % 3, place, term), plain.formFor(text / 3, text % 3, place, term));
    }
}
