/**
 * Promises 19 to 21, sentence by sentence: what is too small, too large, empty, full, or refused.
 * Ahead of each test stands the sentence of the document that it is about.
 */
public final class DaysBoundsTest {
    private static final Class<?> ARGUMENT = Houses.ARGUMENT;
    private static final Class<?> STATE = Houses.STATE;
    private static final int[] OUTSIDE = Houses.OUTSIDE;

    public static void main(String[] args) {
        testPass();
        testMany();
        testMeanConsistency();
        Due.close("DaysBoundsTest");
    }

    // ---- 19: pass

    private static void testPass() {
        passDays();
        passUpToTheLastDay();
        passFirstException();
        passRefusedGoesNoDay();
        passOneByOne();
        passReopensOnceEach();
        passReopensAllTexts();
    }

    // "IllegalArgumentException if days is not 1 to 40"
    private static void passDays() {
        GlossaryCrown house = new GlossaryCrown();
        Due.is("the day at first", house.many(12), 0);
        Due.fails("no days", house, ARGUMENT, () -> house.pass(0));
        Due.fails("41 days", house, ARGUMENT, () -> house.pass(41));
        for (int days : OUTSIDE) {
            Due.fails("days " + days, house, ARGUMENT, () -> house.pass(days));
        }
        Due.is("the fewest days", house.pass(1), 0);
        Due.is("the day", house.many(12), 1);
        Due.is("the most days", house.pass(40), 0);
        Due.is("the day then", house.many(12), 41);
    }

    // "IllegalStateException if the DAY would be above 199"
    private static void passUpToTheLastDay() {
        GlossaryCrown house = new GlossaryCrown();
        Houses.passTo(house, 160);
        Due.fails("to day 200", house, STATE, () -> house.pass(40));
        Due.is("to day 199", house.pass(39), 0);
        Due.is("the day", house.many(12), 199);
        Due.fails("one more", house, STATE, () -> house.pass(1));
        Due.fails("40 more", house, STATE, () -> house.pass(40));
        GlossaryCrown slow = new GlossaryCrown();
        Houses.passTo(slow, 198);
        Due.fails("two more", slow, STATE, () -> slow.pass(2));
        Due.is("the last one", slow.pass(1), 0);
    }

    // "If several exceptions apply, the one that is named first is thrown."
    private static void passFirstException() {
        GlossaryCrown house = new GlossaryCrown();
        Houses.passTo(house, 199);
        Due.fails("41 days, day 240", house, ARGUMENT, () -> house.pass(41));
        Due.fails("no days, day 199", house, ARGUMENT, () -> house.pass(0));
        for (int days : OUTSIDE) {
            Due.fails("days " + days + ", day 199", house, ARGUMENT, () -> house.pass(days));
        }
    }

    /** A house with the TERM 0 in DOCUMENT 0 and the TERM 1 in DOCUMENT 1, each in an APPROVED TEXT; a TEXT beside. */
    private static GlossaryCrown approvedOnDay(int day) {
        GlossaryCrown house = Houses.of(0);
        Houses.documents(house, 2);
        for (int term = 0; term < 2; term++) {
            Houses.admitted(house, 0, 0, term);
            Houses.write(house, term, 0, 4 * term);
            Houses.write(house, term, 1, 0);
            house.approve(term, 0);
        }
        house.approve(0, 1);
        Houses.passTo(house, day);
        return house;
    }

    // "A method that throws an exception changes nothing.": not a day goes by, though some could
    private static void passRefusedGoesNoDay() {
        GlossaryCrown house = approvedOnDay(190);
        house.ban(0, 5);
        Due.fails("10 days of 9", house, STATE, () -> house.pass(10));
        Due.is("the day", house.many(12), 190);
        Due.is("APPROVED", house.ofText(0, 0, 1), 1);
        Due.is("up to the day before", house.pass(4), 0);
        Due.is("on its day", house.pass(1), 2);
    }

    // "Lets DAYS go by (one by one)." "Returns how many TEXTS are REOPENED by that."
    private static void passOneByOne() {
        GlossaryCrown house = approvedOnDay(0);
        house.ban(0, 1);
        house.ban(1, 3);
        Due.is("the first day", house.pass(1), 2);
        Due.is("the second day", house.pass(1), 0);
        Due.is("the third day", house.pass(1), 1);
        GlossaryCrown quick = approvedOnDay(0);
        quick.ban(0, 1);
        quick.ban(1, 3);
        Due.is("all three in one", quick.pass(3), 3);
        Due.is("the day", quick.many(12), 3);
    }

    // "all its TEXTS that are APPROVED are REOPENED": each once, though two of its TERMS are BANNED
    private static void passReopensOnceEach() {
        GlossaryCrown house = Houses.of(0);
        Houses.admitted(house, 0, 0, 0);
        Houses.admitted(house, 0, 0, 1);
        Houses.documents(house, 1);
        Houses.write(house, 0, 0, 0, 4);
        house.approve(0, 0);
        house.ban(0, 2);
        house.ban(1, 4);
        Due.is("in 40 days", house.pass(40), 1);
        house.allow(0);
        house.allow(1);
        house.approve(0, 0);
        house.ban(0, 30);
        Due.is("in 29 days", house.pass(29), 0);
        Due.is("the 30th", house.pass(1), 1);
        Due.is("later none", house.pass(40), 0);
    }

    // "Returns how many TEXTS are REOPENED by that.": all that there can be, on the last DAY
    private static void passReopensAllTexts() {
        GlossaryCrown house = Houses.full();
        Houses.approveAll(house);
        Houses.passTo(house, 169);
        house.ban(0, 30);
        Due.is("up to day 198", house.pass(29), 0);
        Due.is("on day 199", house.pass(1), 18);
    }

    // ---- 20: many

    private static void testMany() {
        manyRange();
        manyOfNothing();
        manyOfAll();
        manyTermsInEachState();
        manyTextsWithAForm();
        manyUses();
    }

    // "IllegalArgumentException if what is not 0 to 12"
    private static void manyRange() {
        GlossaryCrown house = Houses.of(0, 0);
        house.pass(7);
        Due.is("the smallest what", house.many(0), 2);
        Due.is("the greatest what", house.many(12), 7);
        Due.fails("what 13", house, ARGUMENT, () -> house.many(13));
        for (int what : OUTSIDE) {
            Due.fails("what " + what, house, ARGUMENT, () -> house.many(what));
        }
    }

    private static void manyAre(String when, GlossaryCrown house, int... due) {
        for (int what = 0; what <= 12; what++) {
            Due.is(when + ", many " + what, house.many(what), due[what]);
        }
    }

    private static void manyOfNothing() {
        manyAre("new", new GlossaryCrown(), 0, 0, 0, 0, 0, 0, 0, 0, 0, 0, 0, 0, 0);
    }

    // as many of each as the document allows
    private static void manyOfAll() {
        GlossaryCrown house = Houses.full();
        manyAre("full", house, 12, 12, 24, 0, 24, 0, 0, 6, 18, 0, 0, 216, 0);
        Houses.approveAll(house);
        Houses.passTo(house, 199);
        manyAre("APPROVED, on the last day", house, 12, 12, 24, 0, 24, 0, 0, 6, 0, 18, 0, 216, 199);
        for (int term = 0; term < 12; term++) {
            house.prefer(term);
            house.ban(term + 12, 0);
        }
        manyAre("half of them BANNED", house, 12, 12, 24, 0, 0, 12, 12, 6, 0, 0, 18, 216, 199);
        for (int concept = 1; concept < 12; concept++) {
            house.join(0, concept);
        }
        manyAre("joined", house, 12, 1, 24, 0, 10, 2, 12, 6, 0, 0, 18, 216, 199);
    }

    // "3 to 6 those that are PROPOSED, ADMITTED, PREFERRED, BANNED"; "1 those that have TERMS", PROPOSED ones too
    private static void manyTermsInEachState() {
        GlossaryCrown house = Houses.of(0, 0, 0);
        int term = house.term(2, 0, 0);
        manyAre("PROPOSED", house, 3, 1, 1, 1, 0, 0, 0, 0, 0, 0, 0, 0, 0);
        Houses.admit(house, term);
        manyAre("ADMITTED", house, 3, 1, 1, 0, 1, 0, 0, 0, 0, 0, 0, 0, 0);
        house.prefer(term);
        manyAre("PREFERRED", house, 3, 1, 1, 0, 0, 1, 0, 0, 0, 0, 0, 0, 0);
        house.ban(term, 30);
        manyAre("BANNED, in its grace", house, 3, 1, 1, 0, 0, 0, 1, 0, 0, 0, 0, 0, 0);
        house.join(2, 1);
        manyAre("of another concept", house, 3, 1, 1, 0, 0, 0, 1, 0, 0, 0, 0, 0, 0);
    }

    // "8 to 10 TEXTS with a FORM that are DRAFTS, APPROVED, REOPENED"
    private static void manyTextsWithAForm() {
        GlossaryCrown house = Houses.of(0);
        int term = Houses.admitted(house, 0, 2, 0);
        Houses.documents(house, 2);
        Due.is("DRAFTS without a form", house.many(8), 0);
        Houses.write(house, 1, 2, 0);
        Houses.write(house, 0, 0, 0);
        Due.is("DRAFTS with a form", house.many(8), 2);
        house.cut(0, 0);
        Due.is("one has none any more", house.many(8), 1);
        house.approve(1, 2);
        Due.is("APPROVED", 100 * house.many(8) + 10 * house.many(9) + house.many(10), 10);
        house.ban(term, 0);
        Due.is("REOPENED", 100 * house.many(8) + 10 * house.many(9) + house.many(10), 1);
        house.cut(1, 2);
        Due.is("none with a form", 100 * house.many(8) + 10 * house.many(9) + house.many(10), 0);
    }

    // "11 USES in all TEXTS": those that are a TERM
    private static void manyUses() {
        GlossaryCrown house = Houses.of(0, 0);
        Houses.admitted(house, 0, 0, 0);
        int other = Houses.admitted(house, 1, 0, 0);
        Houses.documents(house, 2);
        Houses.write(house, 0, 0, 0, 60, 1);
        Houses.write(house, 1, 1, 0);
        Due.is("without those that are none", house.many(11), 2);
        Houses.write(house, 1, 0, 3);
        Due.is("in another document", house.many(11), 3);
        house.ban(0, 0);
        house.ban(other, 0);
        Due.is("BANNED ones too", house.many(11), 3);
    }

    // ---- 21: meanConsistency

    private static void testMeanConsistency() {
        meanWithoutAny();
        meanOfTextsWithAForm();
        meanIsNotCut();
        meanOfAll();
    }

    // "0 without any"
    private static void meanWithoutAny() {
        GlossaryCrown house = new GlossaryCrown();
        Due.isExactly("without documents", house.meanConsistency(), 0.0);
        Houses.documents(house, 6);
        Due.isExactly("without forms", house.meanConsistency(), 0.0);
        Houses.write(house, 0, 0, 0);
        Due.isExactly("without uses", house.meanConsistency(), 100.0);
        house.cut(0, 0);
        Due.isExactly("without forms again", house.meanConsistency(), 0.0);
    }

    // "of all TEXTS with a FORM", in each state, without USES too
    private static void meanOfTextsWithAForm() {
        GlossaryCrown house = Houses.of(0);
        int term = Houses.admitted(house, 0, 0, 0);
        Houses.documents(house, 2);
        Houses.write(house, 0, 0, 0);
        Houses.write(house, 1, 2, 60);
        Due.isExactly("0 and 100", house.meanConsistency(), 50.0);
        house.approve(0, 0);
        house.approve(1, 2);
        Due.isExactly("APPROVED", house.meanConsistency(), 50.0);
        house.ban(term, 0);
        Due.isExactly("one REOPENED", house.meanConsistency(), 50.0);
        house.allow(term);
        house.prefer(term);
        Due.isExactly("PREFERRED", house.meanConsistency(), 100.0);
    }

    // "CONSISTENCY (each cut)", "the mean not cut"
    private static void meanIsNotCut() {
        GlossaryCrown house = Houses.of(0);
        Houses.preferred(house, 0, 0, 0);
        Houses.admitted(house, 0, 0, 1);
        Houses.documents(house, 3);
        Houses.write(house, 0, 0, 0, 4, 4);
        Due.isExactly("a third is 33", house.meanConsistency(), 33.0);
        Houses.write(house, 1, 0, 0, 4, 0);
        Due.isExactly("33 and 66", house.meanConsistency(), 49.5);
        Houses.write(house, 2, 0, 4);
        Due.isExactly("and 0", house.meanConsistency(), 33.0);
        house.write(2, 0, 0, 60);
        Due.isExactly("33, 66 and 100", house.meanConsistency(), 199.0 / 3.0);
    }

    // "of all TEXTS": as many as there can be
    private static void meanOfAll() {
        GlossaryCrown house = Houses.full();
        Due.isExactly("none PREFERRED", house.meanConsistency(), 0.0);
        house.prefer(0);
        Due.isExactly("16 in each third text", house.meanConsistency(), 6.0 * 16.0 / 18.0);
    }
}
