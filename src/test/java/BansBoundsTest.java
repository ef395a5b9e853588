/**
 * Promises 6 to 9, sentence by sentence: what is too small, too large, empty, full, or refused.
 * Ahead of each test stands the sentence of the document that it is about.
 */
public final class BansBoundsTest {
    private static final Class<?> INDEX = Houses.INDEX;
    private static final Class<?> ARGUMENT = Houses.ARGUMENT;
    private static final Class<?> STATE = Houses.STATE;
    private static final int NONE = Houses.NONE;
    private static final int[] OUTSIDE = Houses.OUTSIDE;

    public static void main(String[] args) {
        testBan();
        testAllow();
        testOfTerm();
        testOfConcept();
        Due.close("BansBoundsTest");
    }

    // ---- 6: ban

    private static void testBan() {
        banTerm();
        banGraceRange();
        banGraceIsOver();
        banGraceAnew();
        banOnTheLastDay();
        banOnlyAdmittedOrPreferred();
        banReopensNoText();
        banReopensAllTexts();
        banReopensOnlyByUses();
        banCountsNoTextTwice();
    }

    // "IndexOutOfBoundsException if there is no such TERM", ahead of all others
    private static void banTerm() {
        GlossaryCrown house = Houses.of(0);
        Houses.admitted(house, 0, 0, 0);
        Due.fails("the next term", house, INDEX, () -> house.ban(1, 0));
        Due.fails("term 24", house, INDEX, () -> house.ban(24, 0));
        Due.fails("no term, grace 31", house, INDEX, () -> house.ban(1, 31));
        Due.fails("no term, grace -1", house, INDEX, () -> house.ban(-1, -1));
        for (int term : OUTSIDE) {
            Due.fails("term " + term, house, INDEX, () -> house.ban(term, 0));
        }
    }

    // "IllegalArgumentException if grace is not 0 to 30", ahead of "if it is neither ADMITTED nor PREFERRED"
    private static void banGraceRange() {
        GlossaryCrown house = Houses.of(0);
        int one = Houses.admitted(house, 0, 0, 0);
        int two = Houses.admitted(house, 0, 0, 1);
        int open = house.term(0, 0, 2);
        Due.fails("grace 31", house, ARGUMENT, () -> house.ban(one, 31));
        for (int grace : OUTSIDE) {
            Due.fails("grace " + grace, house, ARGUMENT, () -> house.ban(one, grace));
        }
        Due.is("the smallest grace", house.ban(one, 0), 0);
        Due.is("the greatest grace", house.ban(two, 30), 0);
        Due.fails("PROPOSED, grace 31", house, ARGUMENT, () -> house.ban(open, 31));
        Due.fails("BANNED, grace -1", house, ARGUMENT, () -> house.ban(one, -1));
    }

    /** A house on DAY 10 with an ADMITTED TERM 0, and one TEXT that uses it and is APPROVED. */
    private static GlossaryCrown approvedOnDay10() {
        GlossaryCrown house = Houses.of(0);
        Houses.admitted(house, 0, 0, 0);
        Houses.documents(house, 1);
        Houses.write(house, 0, 0, 0);
        house.pass(10);
        house.approve(0, 0);
        return house;
    }

    // "its GRACE is over from the DAY on that is GRACE DAYS behind that one (at once, if it is 0)"
    private static void banGraceIsOver() {
        GlossaryCrown atOnce = approvedOnDay10();
        Due.is("grace 0, at once", atOnce.ban(0, 0), 1);
        Due.is("REOPENED at once", atOnce.ofText(0, 0, 1), 2);
        for (int grace : new int[] {1, 2, 29, 30}) {
            GlossaryCrown house = approvedOnDay10();
            Due.is("grace " + grace + ", at once", house.ban(0, grace), 0);
            Due.is("BANNED at once", house.ofTerm(0, 3), 3);
            int before = grace > 1 ? house.pass(grace - 1) : 0;
            Due.is("grace " + grace + ", the day before", before, 0);
            Due.is("APPROVED the day before", house.ofText(0, 0, 1), 1);
            Due.is("grace " + grace + ", on its day", house.pass(1), 1);
            Due.is("REOPENED on its day", house.ofText(0, 0, 1), 2);
        }
    }

    // "it is so from that DAY on": one that is BANNED again has its GRACE anew
    private static void banGraceAnew() {
        GlossaryCrown house = approvedOnDay10();
        house.ban(0, 5);
        house.pass(4);
        house.allow(0);
        Due.is("the same grace again", house.ban(0, 5), 0);
        Due.is("from the second day", house.ofTerm(0, 6), 14);
        Due.is("the day of the first one, and up to the last of the second", house.pass(4), 0);
        Due.is("on its day", house.pass(1), 1);
        GlossaryCrown shorter = approvedOnDay10();
        shorter.ban(0, 30);
        shorter.allow(0);
        Due.is("grace 0 instead of 30", shorter.ban(0, 0), 1);
    }

    // "The DAY is .. 199 at most"
    private static void banOnTheLastDay() {
        GlossaryCrown house = approvedOnDay10();
        Houses.passTo(house, 199);
        Due.is("with grace", house.ban(0, 30), 0);
        Due.is("from day 199", house.ofTerm(0, 6), 199);
        Due.is("for no day", house.allow(0), 0);
        Due.is("without grace", house.ban(0, 0), 1);
    }

    // "IllegalStateException if it is neither ADMITTED nor PREFERRED"
    private static void banOnlyAdmittedOrPreferred() {
        GlossaryCrown house = Houses.of(0);
        int open = house.term(0, 0, 0);
        int admitted = Houses.admitted(house, 0, 0, 1);
        int preferred = Houses.preferred(house, 0, 0, 2);
        Due.fails("PROPOSED", house, STATE, () -> house.ban(open, 0));
        Due.is("ADMITTED", house.ban(admitted, 3), 0);
        Due.is("PREFERRED", house.ban(preferred, 3), 0);
        Due.fails("BANNED, in its grace", house, STATE, () -> house.ban(admitted, 0));
        house.pass(3);
        Due.fails("BANNED, after its grace", house, STATE, () -> house.ban(preferred, 30));
    }

    // "Returns how many TEXTS are REOPENED by that.": none
    private static void banReopensNoText() {
        GlossaryCrown house = Houses.of(0);
        int term = Houses.admitted(house, 0, 0, 0);
        Due.is("without documents", house.ban(term, 0), 0);
        house.allow(term);
        Houses.documents(house, 1);
        Due.is("without forms", house.ban(term, 0), 0);
        house.allow(term);
        Houses.write(house, 0, 0, 0);
        Due.is("in a DRAFT", house.ban(term, 0), 0);
        house.allow(term);
        Houses.write(house, 0, 1, 0);
        house.approve(0, 1);
        Due.is("an APPROVED one in another language has no such use", house.ban(term, 0), 0);
        Due.is("and stays", house.ofText(0, 1, 1), 1);
    }

    // "Returns how many TEXTS are REOPENED by that.": all that there can be
    private static void banReopensAllTexts() {
        GlossaryCrown house = Houses.full();
        Houses.approveAll(house);
        Due.is("all are APPROVED", house.many(9), 18);
        Due.is("a term of one language", house.ban(23, 0), 18);
        Due.is("all are REOPENED", house.many(10), 18);
        Due.is("no more of them", house.ban(0, 0), 0);
    }

    // "has a USE that is BANNED": that a FORM CAN BE the TERM is not enough
    private static void banReopensOnlyByUses() {
        GlossaryCrown house = Houses.of(0, 0);
        int is = Houses.admitted(house, 0, 0, 0);
        int canBe = Houses.admitted(house, 1, 0, 0);
        Houses.documents(house, 1);
        Houses.write(house, 0, 0, 0);
        house.approve(0, 0);
        Due.is("what it CAN BE", house.ban(canBe, 0), 0);
        Due.is("it stays APPROVED", house.ofText(0, 0, 1), 1);
        Due.is("what it is", house.ban(is, 0), 1);
    }

    // "all its TEXTS that are APPROVED are REOPENED": one that is REOPENED already is not
    private static void banCountsNoTextTwice() {
        GlossaryCrown house = Houses.of(0);
        int one = Houses.admitted(house, 0, 0, 0);
        int two = Houses.admitted(house, 0, 1, 1);
        Houses.documents(house, 1);
        Houses.write(house, 0, 0, 0);
        Houses.write(house, 0, 1, 4);
        house.approve(0, 0);
        Due.is("the first text", house.ban(one, 0), 1);
        house.approve(0, 1);
        Due.is("would be the second text alone", house.reopenedBy(two), 1);
        Due.is("the second text alone", house.ban(two, 0), 1);
        Due.is("both are REOPENED", house.many(10), 2);
    }

    // ---- 7: allow

    private static void testAllow() {
        allowTerm();
        allowDays();
        allowInGrace();
        allowLeavesTexts();
        allowOnlyBanned();
    }

    // "IndexOutOfBoundsException if there is no such TERM"
    private static void allowTerm() {
        GlossaryCrown house = Houses.of(0);
        house.ban(Houses.admitted(house, 0, 0, 0), 0);
        Due.fails("the next term", house, INDEX, () -> house.allow(1));
        Due.fails("term 24", house, INDEX, () -> house.allow(24));
        for (int term : OUTSIDE) {
            Due.fails("term " + term, house, INDEX, () -> house.allow(term));
        }
        Due.is("the last term", house.allow(0), 0);
    }

    // "Returns for how many DAYS it was BANNED.": none, all, and of the last time alone
    private static void allowDays() {
        GlossaryCrown house = Houses.of(0);
        int term = Houses.admitted(house, 0, 0, 0);
        int other = Houses.admitted(house, 0, 0, 1);
        house.ban(term, 0);
        house.ban(other, 30);
        Due.is("none", house.allow(term), 0);
        house.pass(3);
        house.ban(term, 0);
        house.pass(1);
        Due.is("one, the last time", house.allow(term), 1);
        Houses.passTo(house, 199);
        Due.is("all", house.allow(other), 199);
    }

    // "It can be let again: then it is ADMITTED.": nothing is REOPENED when its GRACE would be over
    private static void allowInGrace() {
        GlossaryCrown house = approvedOnDay10();
        house.prefer(0);
        house.ban(0, 3);
        house.pass(2);
        Due.is("on the last day of the grace", house.allow(0), 2);
        Due.is("ADMITTED, though it was PREFERRED", house.ofTerm(0, 3), 1);
        Due.is("its grace is nothing any more", house.pass(40), 0);
        Due.is("APPROVED", house.ofText(0, 0, 1), 1);
    }

    // "It can be let again": a TEXT that is REOPENED stays so
    private static void allowLeavesTexts() {
        GlossaryCrown house = approvedOnDay10();
        house.ban(0, 0);
        house.allow(0);
        Due.is("REOPENED", house.ofText(0, 0, 1), 2);
        Due.is("can be APPROVED", house.approve(0, 0), 0);
    }

    // "IllegalStateException if it is not BANNED"
    private static void allowOnlyBanned() {
        GlossaryCrown house = Houses.of(0);
        int term = house.term(0, 0, 0);
        Due.fails("PROPOSED", house, STATE, () -> house.allow(term));
        Houses.admit(house, term);
        Due.fails("ADMITTED", house, STATE, () -> house.allow(term));
        house.prefer(term);
        Due.fails("PREFERRED", house, STATE, () -> house.allow(term));
        house.ban(term, 0);
        Due.is("BANNED", house.allow(term), 0);
        Due.fails("let already", house, STATE, () -> house.allow(term));
    }

    // ---- 8: ofTerm

    private static void testOfTerm() {
        ofTermRange();
        ofTermVotes();
        ofTermDay();
        ofTermUses();
    }

    // "IndexOutOfBoundsException if there is no such TERM", ahead of "IllegalArgumentException if what is not 0 to 7"
    private static void ofTermRange() {
        GlossaryCrown house = Houses.of(0, 0);
        house.term(1, 0, 0);
        Due.is("the smallest what", house.ofTerm(0, 0), 1);
        Due.is("the greatest what", house.ofTerm(0, 7), 0);
        Due.fails("what 8", house, ARGUMENT, () -> house.ofTerm(0, 8));
        Due.fails("the next term", house, INDEX, () -> house.ofTerm(1, 0));
        Due.fails("term 24", house, INDEX, () -> house.ofTerm(24, 0));
        Due.fails("the next term, what 8", house, INDEX, () -> house.ofTerm(1, 8));
        Due.fails("term -1, what -1", house, INDEX, () -> house.ofTerm(-1, -1));
        for (int number : OUTSIDE) {
            Due.fails("what " + number, house, ARGUMENT, () -> house.ofTerm(0, number));
            Due.fails("term " + number, house, INDEX, () -> house.ofTerm(number, 7));
        }
    }

    // "4 votes for it, 5 votes against it": from none to the most
    private static void ofTermVotes() {
        GlossaryCrown house = Houses.of(0);
        int term = house.term(0, 0, 0);
        Due.is("none for", house.ofTerm(term, 4), 0);
        Due.is("none against", house.ofTerm(term, 5), 0);
        house.vote(term, 4, false);
        house.vote(term, 3, false);
        Due.is("two against", house.ofTerm(term, 5), 2);
        house.vote(term, 0, true);
        house.vote(term, 1, true);
        house.vote(term, 2, true);
        Due.is("three for", house.ofTerm(term, 4), 3);
        house.prefer(term);
        house.ban(term, 0);
        Due.is("for, of a BANNED one", house.ofTerm(term, 4), 3);
        Due.is("against, of a BANNED one", house.ofTerm(term, 5), 2);
    }

    // "6 the DAY from which it is BANNED (NONE, if it is not)"
    private static void ofTermDay() {
        GlossaryCrown house = Houses.of(0);
        int term = house.term(0, 0, 0);
        Due.is("PROPOSED", house.ofTerm(term, 6), NONE);
        Houses.admit(house, term);
        Due.is("ADMITTED", house.ofTerm(term, 6), NONE);
        house.ban(term, 30);
        Due.is("day 0, in its grace", house.ofTerm(term, 6), 0);
        house.pass(40);
        Due.is("after its grace", house.ofTerm(term, 6), 0);
        house.allow(term);
        Due.is("let again", house.ofTerm(term, 6), NONE);
        house.prefer(term);
        Due.is("PREFERRED", house.ofTerm(term, 6), NONE);
        house.ban(term, 0);
        Due.is("BANNED again", house.ofTerm(term, 6), 40);
    }

    // "7 how many USES of it there are in all TEXTS": none, and all
    private static void ofTermUses() {
        GlossaryCrown house = Houses.of(0);
        int term = Houses.admitted(house, 0, 1, 19);
        int other = Houses.admitted(house, 0, 1, 18);
        Due.is("without documents", house.ofTerm(term, 7), 0);
        Houses.documents(house, 6);
        for (int document = 0; document < 6; document++) {
            Houses.writeTimes(house, document, 0, 79, 2);
            Houses.writeTimes(house, document, 1, 79, 12);
        }
        Due.is("each form of its language", house.ofTerm(term, 7), 72);
        Due.is("none of another one", house.ofTerm(other, 7), 0);
        house.cut(5, 1);
        Due.is("one is cut", house.ofTerm(term, 7), 71);
        house.write(0, 1, 0, 72);
        Due.is("one is written over", house.ofTerm(term, 7), 70);
    }

    // ---- 9: ofConcept

    private static void testOfConcept() {
        ofConceptRange();
        ofConceptEmpty();
        ofConceptFull();
    }

    // "IndexOutOfBoundsException if there is no such CONCEPT", ahead of "IllegalArgumentException if what is not ..."
    private static void ofConceptRange() {
        GlossaryCrown house = Houses.of(0, 3);
        Due.is("the smallest what", house.ofConcept(1, 0), 3);
        Due.is("the greatest what", house.ofConcept(1, 6), 0);
        Due.fails("what 7", house, ARGUMENT, () -> house.ofConcept(0, 7));
        Due.fails("the next concept", house, INDEX, () -> house.ofConcept(2, 0));
        Due.fails("concept 12", house, INDEX, () -> house.ofConcept(12, 0));
        Due.fails("the next concept, what 7", house, INDEX, () -> house.ofConcept(2, 7));
        Due.fails("concept -1, what -1", house, INDEX, () -> house.ofConcept(-1, -1));
        for (int number : OUTSIDE) {
            Due.fails("what " + number, house, ARGUMENT, () -> house.ofConcept(0, number));
            Due.fails("concept " + number, house, INDEX, () -> house.ofConcept(number, 6));
        }
    }

    private static void conceptIs(String which, GlossaryCrown house, int concept, int... due) {
        for (int what = 0; what < due.length; what++) {
            Due.is(which + ", ofConcept " + what, house.ofConcept(concept, what), due[what]);
        }
    }

    // "2 to 4 the one that is PREFERRED in the LANGUAGE 0, 1, 2 (NONE)", and one that has no TERMS (any more)
    private static void ofConceptEmpty() {
        GlossaryCrown house = Houses.of(2, 3);
        conceptIs("without terms", house, 1, 3, 0, NONE, NONE, NONE, 0, 0);
        for (int language = 0; language < 3; language++) {
            Houses.preferred(house, 1, language, 0);
        }
        Houses.documents(house, 1);
        Houses.write(house, 0, 0, 0);
        conceptIs("TERM 0 and others", house, 1, 3, 3, 0, 1, 2, 1, 1);
        house.join(0, 1);
        conceptIs("emptied", house, 1, 3, 0, NONE, NONE, NONE, 0, 0);
        conceptIs("joined", house, 0, 2, 3, 0, 1, 2, 1, 1);
    }

    // "1 how many TERMS", "5 how many USES there are of its TERMS, 6 in how many DOCUMENTS": all that there can be
    private static void ofConceptFull() {
        GlossaryCrown house = Houses.full();
        conceptIs("one of 12", house, 11, 0, 2, NONE, NONE, NONE, 18, 6);
        for (int concept = 1; concept < 12; concept++) {
            house.join(0, concept);
        }
        for (int term = 0; term < 24; term += 8) {
            house.prefer(term);
        }
        conceptIs("one of one", house, 0, 0, 24, 0, 8, 16, 216, 6);
    }
}
