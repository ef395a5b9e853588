import java.math.BigInteger;

/**
 * Promises 22 to 26, sentence by sentence: what is too small, too large, empty, full, or refused.
 * Ahead of each test stands the sentence of the document that it is about.
 */
public final class WouldBeBoundsTest {
    private static final Class<?> INDEX = Houses.INDEX;
    private static final Class<?> ARGUMENT = Houses.ARGUMENT;
    private static final int NONE = Houses.NONE;
    private static final int[] OUTSIDE = Houses.OUTSIDE;

    public static void main(String[] args) {
        testReopenedBy();
        testReopenedIn();
        testChangedBy();
        testFormFor();
        testDigest();
        Due.close("WouldBeBoundsTest");
    }

    // ---- 22: reopenedBy

    private static void testReopenedBy() {
        reopenedByTerm();
        reopenedByOneThatCannotBe();
        reopenedByNone();
        reopenedByAll();
        reopenedByIsWhatBanAnswers();
    }

    // "IndexOutOfBoundsException if there is no such TERM"
    private static void reopenedByTerm() {
        GlossaryCrown house = Houses.of(0);
        Houses.admitted(house, 0, 0, 0);
        Houses.admitted(house, 0, 0, 1);
        Due.is("the first term", house.reopenedBy(0), 0);
        Due.is("the last term", house.reopenedBy(1), 0);
        Due.fails("the next term", house, INDEX, () -> house.reopenedBy(2));
        Due.fails("term 24", house, INDEX, () -> house.reopenedBy(24));
        for (int term : OUTSIDE) {
            Due.fails("term " + term, house, INDEX, () -> house.reopenedBy(term));
        }
    }

    // "(0, if it cannot be)": one that is PROPOSED, or BANNED already
    private static void reopenedByOneThatCannotBe() {
        GlossaryCrown house = Houses.of(0);
        int term = house.term(0, 0, 0);
        Houses.documents(house, 1);
        Houses.write(house, 0, 0, 0);
        house.approve(0, 0);
        Due.is("PROPOSED", house.reopenedBy(term), 0);
        Houses.admit(house, term);
        Due.is("ADMITTED", house.reopenedBy(term), 1);
        house.prefer(term);
        Due.is("PREFERRED", house.reopenedBy(term), 1);
        house.ban(term, 1);
        Due.is("BANNED, in its grace", house.reopenedBy(term), 0);
        house.allow(term);
        Due.is("let again", house.reopenedBy(term), 1);
        house.ban(term, 0);
        Due.is("BANNED", house.reopenedBy(term), 0);
    }

    // "how many TEXTS would be REOPENED at once": not DRAFTS, nor those that are REOPENED, nor those without such a USE
    private static void reopenedByNone() {
        GlossaryCrown house = Houses.of(0, 0);
        int term = Houses.admitted(house, 0, 0, 0);
        int canBe = Houses.admitted(house, 1, 0, 0);
        int other = Houses.admitted(house, 0, 1, 0);
        Houses.documents(house, 1);
        Due.is("without forms", house.reopenedBy(term), 0);
        Houses.write(house, 0, 0, 0);
        Houses.write(house, 0, 1, 0);
        Due.is("DRAFTS", house.reopenedBy(term), 0);
        house.approve(0, 1);
        Due.is("the other text is APPROVED", house.reopenedBy(term), 0);
        house.approve(0, 0);
        Due.is("both are", house.reopenedBy(term), 2);
        Due.is("what the form is not there", house.reopenedBy(canBe), 0);
        house.ban(other, 0);
        Due.is("both are REOPENED", house.reopenedBy(term), 0);
        house.approve(0, 0);
        Due.is("one is", house.reopenedBy(term), 1);
    }

    // as many as there can be; "(nothing is changed)"
    private static void reopenedByAll() {
        GlossaryCrown house = Houses.full();
        Houses.approveAll(house);
        for (int term = 0; term < 24; term++) {
            Due.is("term " + term, house.reopenedBy(term), 18);
        }
        Due.is("all are APPROVED still", house.many(9), 18);
        Due.is("none is BANNED", house.many(6), 0);
    }

    // "if it was BANNED with the GRACE 0": also beside one that is BANNED in its GRACE
    private static void reopenedByIsWhatBanAnswers() {
        GlossaryCrown house = Houses.of(0);
        int one = Houses.admitted(house, 0, 0, 0);
        int two = Houses.admitted(house, 0, 1, 0);
        Houses.documents(house, 3);
        Houses.write(house, 0, 0, 0);
        Houses.write(house, 1, 1, 0);
        Houses.write(house, 1, 2, 0);
        Houses.write(house, 2, 0, 0);
        Houses.write(house, 2, 1, 0);
        house.approve(0, 0);
        house.approve(1, 1);
        house.approve(1, 2);
        house.approve(2, 0);
        house.ban(one, 30);
        Due.is("would be", house.reopenedBy(two), 2);
        Due.is("are", house.ban(two, 0), 2);
    }

    // ---- 23: reopenedIn

    private static void testReopenedIn() {
        reopenedInDays();
        reopenedInGrace();
        reopenedInBeyondTheLastDay();
        reopenedInIsWhatPassAnswers();
        reopenedInAll();
    }

    // "IllegalArgumentException if days is not 1 to 40"
    private static void reopenedInDays() {
        GlossaryCrown house = new GlossaryCrown();
        Due.is("the fewest days", house.reopenedIn(1), 0);
        Due.is("the most days", house.reopenedIn(40), 0);
        Due.fails("no days", house, ARGUMENT, () -> house.reopenedIn(0));
        Due.fails("41 days", house, ARGUMENT, () -> house.reopenedIn(41));
        for (int days : OUTSIDE) {
            Due.fails("days " + days, house, ARGUMENT, () -> house.reopenedIn(days));
        }
        Houses.passTo(house, 199);
        Due.fails("no days, on the last day", house, ARGUMENT, () -> house.reopenedIn(0));
        Due.fails("41 days, on the last day", house, ARGUMENT, () -> house.reopenedIn(41));
        Due.is("40 days, on the last day", house.reopenedIn(40), 0);
    }

    private static GlossaryCrown approvedOnDay(int day) {
        GlossaryCrown house = Houses.of(0);
        Houses.admitted(house, 0, 0, 0);
        Houses.documents(house, 1);
        Houses.write(house, 0, 0, 0);
        house.approve(0, 0);
        Houses.passTo(house, day);
        return house;
    }

    // "how many TEXTS would be REOPENED in so many": up to the DAY before the GRACE is over, and from it on
    private static void reopenedInGrace() {
        for (int grace : new int[] {1, 2, 29, 30}) {
            GlossaryCrown house = approvedOnDay(5);
            house.ban(0, grace);
            for (int days : new int[] {1, 2, 28, 29, 30, 31, 40}) {
                Due.is("grace " + grace + ", in " + days, house.reopenedIn(days), days < grace ? 0 : 1);
            }
        }
        GlossaryCrown reopened = approvedOnDay(5);
        reopened.ban(0, 0);
        Due.is("one that is REOPENED already", reopened.reopenedIn(40), 0);
    }

    // "(also beyond 199)"
    private static void reopenedInBeyondTheLastDay() {
        GlossaryCrown house = approvedOnDay(199);
        house.ban(0, 1);
        Due.is("day 200", house.reopenedIn(1), 1);
        house.allow(0);
        house.ban(0, 30);
        Due.is("day 228", house.reopenedIn(29), 0);
        Due.is("day 229", house.reopenedIn(30), 1);
        Due.is("day 239", house.reopenedIn(40), 1);
        Due.is("the day stays", house.many(12), 199);
        GlossaryCrown before = approvedOnDay(180);
        before.ban(0, 20);
        Due.is("day 199", before.reopenedIn(19), 0);
        Due.is("day 200, told on day 180", before.reopenedIn(20), 1);
    }

    // "if nothing else came": what pass() answers then
    private static void reopenedInIsWhatPassAnswers() {
        GlossaryCrown house = Houses.of(0);
        Houses.documents(house, 6);
        for (int document = 0; document < 6; document++) {
            Houses.admitted(house, 0, 0, document);
            Houses.write(house, document, 0, 4 * document);
            house.approve(document, 0);
        }
        for (int term = 0; term < 5; term++) {
            house.ban(term, 3 * term + 1);
        }
        Due.is("in 6, told ahead", house.reopenedIn(6), 2);
        Due.is("in 6", house.pass(6), 2);
        Due.is("in 7, told ahead", house.reopenedIn(7), 3);
        Due.is("in 7", house.pass(7), 3);
        Due.is("no more, told ahead", house.reopenedIn(40), 0);
        Due.is("no more", house.pass(40), 0);
        Due.is("the one that is not BANNED", house.many(9), 1);
    }

    // as many as there can be; "(nothing is changed)"
    private static void reopenedInAll() {
        GlossaryCrown house = Houses.full();
        Houses.approveAll(house);
        house.ban(0, 30);
        house.ban(23, 30);
        Due.is("in 30", house.reopenedIn(30), 18);
        Due.is("in 29", house.reopenedIn(29), 0);
        Due.is("all are APPROVED still", house.many(9), 18);
    }

    // ---- 24: changedBy

    private static void testChangedBy() {
        changedByConcepts();
        changedBySame();
        changedByCannot();
        changedByNone();
        changedByOfAFullText();
    }

    // "IndexOutOfBoundsException if there is no such CONCEPT", ahead of "if they are the same"
    private static void changedByConcepts() {
        GlossaryCrown house = Houses.of(0, 1, 2);
        Due.is("the first with the last", house.changedBy(0, 2), 0);
        Due.is("the last with the first", house.changedBy(2, 0), 0);
        Due.fails("the next with the first", house, INDEX, () -> house.changedBy(3, 0));
        Due.fails("the first with the next", house, INDEX, () -> house.changedBy(0, 3));
        Due.fails("the next with itself", house, INDEX, () -> house.changedBy(3, 3));
        Due.fails("-1 with itself", house, INDEX, () -> house.changedBy(-1, -1));
        for (int concept : OUTSIDE) {
            Due.fails(concept + " with the first", house, INDEX, () -> house.changedBy(concept, 0));
            Due.fails("the first with " + concept, house, INDEX, () -> house.changedBy(0, concept));
        }
    }

    // "IllegalArgumentException if they are the same", with TERMS and without
    private static void changedBySame() {
        GlossaryCrown house = Houses.of(0, 1);
        house.term(0, 0, 0);
        Due.fails("with terms", house, ARGUMENT, () -> house.changedBy(0, 0));
        Due.fails("without terms", house, ARGUMENT, () -> house.changedBy(1, 1));
    }

    // "NONE if they cannot be", for TERMS of each state
    private static void changedByCannot() {
        GlossaryCrown house = Houses.of(0, 1, 2);
        house.term(0, 0, 0);
        int term = house.term(1, 0, 0);
        house.term(2, 1, 0);
        Due.is("both PROPOSED", house.changedBy(0, 1), NONE);
        Houses.admit(house, term);
        Due.is("one ADMITTED", house.changedBy(1, 0), NONE);
        house.ban(term, 0);
        Due.is("one BANNED", house.changedBy(0, 1), NONE);
        Due.is("the same stem in another language", house.changedBy(2, 1), 0);
        house.join(2, 1);
        Due.is("they cannot be yet", house.changedBy(1, 0), NONE);
        Due.is("with one without terms", house.changedBy(0, 2), 0);
    }

    // "how many USES .. would be other TERMS": none, if no DOMAIN changes, or no FORM CAN BE several
    private static void changedByNone() {
        GlossaryCrown house = Houses.of(1, 1, 0, 3);
        Houses.admitted(house, 2, 0, 0);
        Houses.admitted(house, 1, 0, 0);
        Houses.admitted(house, 0, 0, 1);
        Houses.admitted(house, 3, 0, 2);
        Houses.documents(house, 1);
        Due.is("without forms", house.changedBy(0, 2), 0);
        Houses.write(house, 0, 0, 4, 8);
        Due.is("without forms that could be several", house.changedBy(0, 3), 0);
        Houses.write(house, 0, 0, 0);
        Due.is("of the same domain", house.changedBy(0, 1), 0);
        Due.is("of another domain", house.changedBy(2, 0), 1);
        Due.is("of a domain that none has near", house.changedBy(0, 3), 0);
        Due.is("the use stays", house.use(0, 0, 2), 1);
    }

    // "in all TEXTS", as many as there can be; "(nothing is changed)"
    private static void changedByOfAFullText() {
        GlossaryCrown house = Houses.of(0, 1, 1);
        for (int language = 0; language < 3; language++) {
            Houses.admitted(house, 0, language, 0);
            Houses.admitted(house, 1, language, 0);
            Houses.admitted(house, 2, language, 1);
        }
        Houses.documents(house, 6);
        for (int text = 0; text < 18; text++) {
            for (int place = 0; place < 12; place++) {
                house.write(text / 3, text % 3, place, place % 4 == 1 ? 4 : 0);
            }
        }
        Due.is("nine in each text", house.changedBy(2, 0), 162);
        Due.is("told the other way round", house.changedBy(0, 2), 162);
        Due.is("nothing is changed", house.use(5, 2, 11), 7);
        house.join(0, 2);
        Due.is("then the first place is", house.use(0, 0, 0), 0);
        Due.is("and the last", house.use(5, 2, 11), 6);
        Due.is("the plain ones stay", house.use(5, 2, 9), 8);
    }

    // ---- 25: formFor

    private static void testFormFor() {
        formForText();
        formForPlace();
        formForPlaceOfAFullText();
        formForTerm();
        formForNone();
        formForSmallest();
        formForInsteadOfOneThatIsThere();
        formForEachState();
    }

    // "IndexOutOfBoundsException if there is no such DOCUMENT, LANGUAGE"
    private static void formForText() {
        GlossaryCrown house = Houses.of(0);
        Houses.admitted(house, 0, 0, 0);
        Houses.admitted(house, 0, 2, 1);
        Houses.documents(house, 2);
        Due.is("the first text", house.formFor(0, 0, 0, 0), 0);
        Due.is("the last text", house.formFor(1, 2, 0, 1), 4);
        Due.fails("the next document", house, INDEX, () -> house.formFor(2, 0, 0, 0));
        Due.fails("document 6", house, INDEX, () -> house.formFor(6, 0, 0, 0));
        Due.fails("language 3", house, INDEX, () -> house.formFor(0, 3, 0, 0));
        Due.fails("language -1 of the second", house, INDEX, () -> house.formFor(1, -1, 0, 0));
        for (int number : OUTSIDE) {
            Due.fails("document " + number, house, INDEX, () -> house.formFor(number, 0, 0, 0));
            Due.fails("language " + number, house, INDEX, () -> house.formFor(0, number, 0, 0));
        }
    }

    // "the PLACE of a FORM, or the next one"
    private static void formForPlace() {
        GlossaryCrown house = Houses.of(0);
        Houses.admitted(house, 0, 0, 0);
        Houses.documents(house, 1);
        Due.is("place 0 of none", house.formFor(0, 0, 0, 0), 0);
        Due.fails("place 1 of none", house, INDEX, () -> house.formFor(0, 0, 1, 0));
        Houses.write(house, 0, 0, 60, 61);
        Due.is("place 1 of two", house.formFor(0, 0, 1, 0), 0);
        Due.is("place 2 of two", house.formFor(0, 0, 2, 0), 0);
        Due.fails("place 3 of two", house, INDEX, () -> house.formFor(0, 0, 3, 0));
        Due.fails("place 1 of another text", house, INDEX, () -> house.formFor(0, 1, 1, 0));
        house.cut(0, 0);
        Due.fails("place 2 of one", house, INDEX, () -> house.formFor(0, 0, 2, 0));
        for (int place : OUTSIDE) {
            Due.fails("place " + place, house, INDEX, () -> house.formFor(0, 0, place, 0));
        }
    }

    // "(no more than 11)"
    private static void formForPlaceOfAFullText() {
        GlossaryCrown house = Houses.of(0);
        Houses.admitted(house, 0, 2, 0);
        Houses.documents(house, 6);
        Houses.writeTimes(house, 5, 2, 60, 11);
        Due.is("place 11 of 11", house.formFor(5, 2, 11, 0), 0);
        Due.fails("place 12 of 11", house, INDEX, () -> house.formFor(5, 2, 12, 0));
        Houses.write(house, 5, 2, 60);
        Due.is("place 11 of 12", house.formFor(5, 2, 11, 0), 0);
        Due.is("place 0 of 12", house.formFor(5, 2, 0, 0), 0);
        Due.fails("place 12 of 12", house, INDEX, () -> house.formFor(5, 2, 12, 0));
    }

    // "IndexOutOfBoundsException if there is no such .. TERM"
    private static void formForTerm() {
        GlossaryCrown house = Houses.of(0);
        Houses.admitted(house, 0, 0, 3);
        Houses.admitted(house, 0, 0, 4);
        Houses.documents(house, 1);
        Due.is("the first term", house.formFor(0, 0, 0, 0), 12);
        Due.is("the last term", house.formFor(0, 0, 0, 1), 16);
        Due.fails("the next term", house, INDEX, () -> house.formFor(0, 0, 0, 2));
        Due.fails("term 24", house, INDEX, () -> house.formFor(0, 0, 0, 24));
        for (int term : OUTSIDE) {
            Due.fails("term " + term, house, INDEX, () -> house.formFor(0, 0, 0, term));
        }
    }

    // "NONE without one": PROPOSED, of another LANGUAGE, or told apart as another one
    private static void formForNone() {
        GlossaryCrown house = Houses.of(0, 1);
        int open = house.term(0, 0, 5);
        int away = Houses.admitted(house, 0, 1, 0);
        int zero = Houses.admitted(house, 0, 0, 0);
        int one = Houses.admitted(house, 1, 0, 0);
        Houses.admitted(house, 1, 0, 1);
        Houses.documents(house, 1);
        Due.is("PROPOSED", house.formFor(0, 0, 0, open), NONE);
        Due.is("of another language", house.formFor(0, 0, 0, away), NONE);
        Due.is("the greater number", house.formFor(0, 0, 0, one), NONE);
        Due.is("the smaller number", house.formFor(0, 0, 0, zero), 0);
        Houses.write(house, 0, 0, 4);
        Due.is("the greater number, near to one of its domain", house.formFor(0, 0, 1, one), 0);
        Due.is("the smaller number there", house.formFor(0, 0, 1, zero), NONE);
        Houses.admit(house, open);
        Due.is("ADMITTED", house.formFor(0, 0, 0, open), 20);
    }

    // "the smallest FORM": of the first STEM and of the last
    private static void formForSmallest() {
        GlossaryCrown house = Houses.of(0);
        Houses.admitted(house, 0, 0, 0);
        Houses.admitted(house, 0, 0, 19);
        Houses.documents(house, 1);
        Houses.write(house, 0, 0, 3, 79);
        Due.is("of the first stem", house.formFor(0, 0, 0, 0), 0);
        Due.is("of the last stem", house.formFor(0, 0, 1, 1), 76);
    }

    // "(written instead of one that is there ..)": that one is not near then; those on both sides are
    private static void formForInsteadOfOneThatIsThere() {
        GlossaryCrown house = Houses.of(0, 1);
        int zero = Houses.admitted(house, 0, 0, 0);
        int one = Houses.admitted(house, 1, 0, 0);
        Houses.admitted(house, 1, 0, 1);
        Houses.documents(house, 1);
        Houses.write(house, 0, 0, 60, 60, 60, 60, 4, 60, 60, 60);
        Due.is("instead of the near one", house.formFor(0, 0, 4, zero), 0);
        Due.is("instead of it, the other", house.formFor(0, 0, 4, one), NONE);
        Due.is("3 ahead of it", house.formFor(0, 0, 1, one), 0);
        Due.is("4 ahead of it", house.formFor(0, 0, 0, one), NONE);
        Due.is("3 behind it", house.formFor(0, 0, 7, one), 0);
        Due.is("4 behind it, the next place", house.formFor(0, 0, 8, one), NONE);
        Due.is("4 behind it, the smaller number", house.formFor(0, 0, 8, zero), 0);
        house.cut(0, 0);
        Due.is("3 behind it, the next place", house.formFor(0, 0, 7, one), 0);
    }

    // "whatever the state of the TEXT is"; "(nothing is changed)"
    private static void formForEachState() {
        GlossaryCrown house = Houses.of(0);
        int term = Houses.admitted(house, 0, 0, 0);
        int other = Houses.admitted(house, 0, 0, 1);
        Houses.documents(house, 1);
        Houses.write(house, 0, 0, 3);
        Due.is("a DRAFT", house.formFor(0, 0, 0, other), 4);
        house.approve(0, 0);
        Due.is("APPROVED", house.formFor(0, 0, 0, other), 4);
        Due.is("APPROVED, the next place", house.formFor(0, 0, 1, other), 4);
        Due.is("it stays APPROVED", house.ofText(0, 0, 1), 1);
        house.ban(term, 0);
        Due.is("REOPENED", house.formFor(0, 0, 0, other), 4);
        Due.is("a BANNED one", house.formFor(0, 0, 1, term), 0);
        Due.is("it stays REOPENED", house.ofText(0, 0, 1), 2);
        Due.is("the form stays", house.cut(0, 0), 3);
    }

    // ---- 26: digest

    private static void testDigest() {
        digestWrapsAround();
        digestOfTheLastCall();
    }

    private static long wrapped(int... numbers) {
        BigInteger d = BigInteger.valueOf(58116);
        for (int number : numbers) {
            d = d.multiply(BigInteger.valueOf(31)).add(BigInteger.valueOf(number));
        }
        return d.longValue();
    }

    // "A number d starts with 58116"; "which wraps around as a 64-bit integer"
    private static void digestWrapsAround() {
        GlossaryCrown house = new GlossaryCrown();
        Due.is("new", house.digest(), wrapped(0, 0, 0, 0, 0, 0, 0, 0, 0, 0, 0, 0, 0, 0));
        house.pass(40);
        Due.is("on day 40", house.digest(), wrapped(0, 0, 0, 0, 0, 0, 0, 0, 0, 0, 0, 0, 40, 0));
        house.concept(2);
        house.term(0, 1, 19);
        house.vote(0, 4, false);
        house.document();
        house.write(0, 1, 0, 79);
        Due.is("one of each", house.digest(), wrapped(
            1, 1, 1, 1, 0, 0, 0, 1, 1, 0, 0, 0, 40,
            0, 1, 19, 0, 0, 1, -1, 0, 0,
            2, 1, -1, -1, -1, 0, 0,
            0, 0, 0, 0, -1, 100, 0,
            1, 0, 0, 0, -1, 100, 0, -1,
            0, 0, 0, 0, -1, 100, 0,
            100, 0));
        Houses.admit(house, 0);
        house.prefer(0);
        house.approve(0, 1);
        Due.is("before the ban", house.digest(), wrapped(
            1, 1, 1, 0, 0, 1, 0, 1, 0, 1, 0, 1, 40,
            0, 1, 19, 2, 3, 1, -1, 1, 1,
            2, 1, -1, 0, -1, 1, 1,
            0, 0, 0, 0, -1, 100, 0,
            1, 1, 1, 0, -1, 100, 0, 0,
            0, 0, 0, 0, -1, 100, 0,
            100, 0));
        digestOfGrace(house, 10, 1);
        house.allow(0);
        digestOfGrace(house, 11, 0);
    }

    // "reopenedIn() of 10"
    private static void digestOfGrace(GlossaryCrown house, int grace, int reopenedIn10) {
        house.ban(0, grace);
        Due.is("with grace " + grace, house.digest(), wrapped(
            1, 1, 1, 0, 0, 0, 1, 1, 0, 1, 0, 1, 40,
            0, 1, 19, 3, 3, 1, 40, 1, 0,
            2, 1, -1, -1, -1, 1, 1,
            0, 0, 0, 0, -1, 100, 0,
            1, 1, 1, 1, 0, 0, 0, 0,
            0, 0, 0, 0, -1, 100, 0,
            100, reopenedIn10));
    }

    // "An object is used for at most 512 calls after it has been made": the last of them is promised
    private static void digestOfTheLastCall() {
        GlossaryCrown house = new GlossaryCrown();
        for (int call = 1; call < 512; call++) {
            Due.is("call " + call, house.many(12), 0);
        }
        Due.is("the 512th call", house.digest(), wrapped(0, 0, 0, 0, 0, 0, 0, 0, 0, 0, 0, 0, 0, 0));
    }
}
