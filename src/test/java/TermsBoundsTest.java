/**
 * Promises 1 to 5, sentence by sentence: what is too small, too large, empty, full, or refused.
 * Ahead of each test stands the sentence of the document that it is about.
 */
public final class TermsBoundsTest {
    private static final Class<?> INDEX = Houses.INDEX;
    private static final Class<?> ARGUMENT = Houses.ARGUMENT;
    private static final Class<?> STATE = Houses.STATE;
    private static final int NONE = Houses.NONE;
    private static final int[] OUTSIDE = Houses.OUTSIDE;

    public static void main(String[] args) {
        testNew();
        testConcept();
        testTerm();
        testVote();
        testPrefer();
        Due.close("TermsBoundsTest");
    }

    // ---- 1: "Creates a house without CONCEPTS."

    private static void testNew() {
        newHouseHasNoTerms();
        newHouseHasNoDocuments();
        newHousesAreApart();
    }

    private static void newHouseHasNoTerms() {
        GlossaryCrown house = new GlossaryCrown();
        Due.fails("new: term", house, INDEX, () -> house.term(0, 0, 0));
        Due.fails("new: vote", house, INDEX, () -> house.vote(0, 0, true));
        Due.fails("new: prefer", house, INDEX, () -> house.prefer(0));
        Due.fails("new: ban", house, INDEX, () -> house.ban(0, 0));
        Due.fails("new: allow", house, INDEX, () -> house.allow(0));
        Due.fails("new: ofTerm", house, INDEX, () -> house.ofTerm(0, 0));
        Due.fails("new: ofConcept", house, INDEX, () -> house.ofConcept(0, 0));
        Due.fails("new: split", house, INDEX, () -> house.split(0, 1, 0));
        Due.fails("new: join", house, INDEX, () -> house.join(0, 1));
        Due.fails("new: reopenedBy", house, INDEX, () -> house.reopenedBy(0));
        Due.fails("new: changedBy", house, INDEX, () -> house.changedBy(0, 1));
    }

    private static void newHouseHasNoDocuments() {
        GlossaryCrown house = new GlossaryCrown();
        Due.fails("new: write", house, INDEX, () -> house.write(0, 0, 0, 0));
        Due.fails("new: cut", house, INDEX, () -> house.cut(0, 0));
        Due.fails("new: approve", house, INDEX, () -> house.approve(0, 0));
        Due.fails("new: use", house, INDEX, () -> house.use(0, 0, 0));
        Due.fails("new: ofText", house, INDEX, () -> house.ofText(0, 0, 0));
        Due.fails("new: agreement", house, INDEX, () -> house.agreement(0));
        Due.fails("new: formFor", house, INDEX, () -> house.formFor(0, 0, 0, 0));
        Due.is("new: reopenedIn", house.reopenedIn(40), 0);
        Due.is("new: pass", house.pass(40), 0);
    }

    private static void newHousesAreApart() {
        GlossaryCrown full = Houses.full();
        GlossaryCrown house = new GlossaryCrown();
        Due.is("beside a full one: the first concept", house.concept(1), 0);
        Due.is("its terms", house.ofConcept(0, 1), 0);
        Due.is("the first term", house.term(0, 0, 0), 0);
        Due.is("the first document", house.document(), 0);
        Due.is("the full one stays", full.many(2), 24);
    }

    // ---- 2: concept

    private static void testConcept() {
        conceptDomain();
        conceptsAreTwelve();
        conceptsOfSplitsCount();
        conceptsOfJoinsCount();
    }

    // "IllegalArgumentException if domain is not 0 to 3"
    private static void conceptDomain() {
        GlossaryCrown house = new GlossaryCrown();
        Due.is("the smallest domain", house.concept(0), 0);
        Due.is("the greatest domain", house.concept(3), 1);
        Due.fails("domain 4", house, ARGUMENT, () -> house.concept(4));
        for (int domain : OUTSIDE) {
            Due.fails("domain " + domain, house, ARGUMENT, () -> house.concept(domain));
        }
        Due.is("a refused one takes no number", house.concept(2), 2);
        Due.is("domain 0", house.ofConcept(0, 0), 0);
        Due.is("domain 3", house.ofConcept(1, 0), 3);
    }

    // "IllegalStateException if there are 12"; "If several exceptions apply, the one that is named first is thrown."
    private static void conceptsAreTwelve() {
        GlossaryCrown house = new GlossaryCrown();
        Houses.concepts(house, 11);
        Due.is("the 12th", house.concept(3), 11);
        Due.fails("the 13th", house, STATE, () -> house.concept(3));
        Due.fails("the 13th again", house, STATE, () -> house.concept(0));
        Due.fails("the 13th, domain 4", house, ARGUMENT, () -> house.concept(4));
        Due.fails("the 13th, domain -1", house, ARGUMENT, () -> house.concept(-1));
    }

    // "CONCEPTS: at most 12"; a SPLIT adds one of them
    private static void conceptsOfSplitsCount() {
        GlossaryCrown house = new GlossaryCrown();
        Houses.concepts(house, 11);
        house.term(0, 0, 0);
        house.term(0, 0, 1);
        Due.is("the 12th by a split", house.split(0, 1, 0), 11);
        Due.fails("the 13th", house, STATE, () -> house.concept(0));
    }

    // "the one with the greater number has none any more, but is there still"
    private static void conceptsOfJoinsCount() {
        GlossaryCrown house = new GlossaryCrown();
        Houses.concepts(house, 12);
        house.join(10, 11);
        Due.is("ever", house.many(0), 12);
        Due.fails("no room by a join", house, STATE, () -> house.concept(0));
    }

    // ---- 3: term

    private static void testTerm() {
        termConcept();
        termLanguage();
        termStem();
        termsAre24();
        termThereIsInEachState();
        termThereIsAfterSplitAndJoin();
        termFirstException();
    }

    // "IndexOutOfBoundsException if there is no such CONCEPT"
    private static void termConcept() {
        GlossaryCrown house = Houses.of(0, 0, 0);
        Due.is("the first concept", house.term(0, 0, 0), 0);
        Due.is("the last concept", house.term(2, 0, 0), 1);
        Due.fails("the next concept", house, INDEX, () -> house.term(3, 0, 0));
        Due.fails("concept 12", house, INDEX, () -> house.term(12, 0, 0));
        for (int concept : OUTSIDE) {
            Due.fails("concept " + concept, house, INDEX, () -> house.term(concept, 0, 0));
        }
    }

    // "IndexOutOfBoundsException if there is no such .. LANGUAGE"
    private static void termLanguage() {
        GlossaryCrown house = Houses.of(0);
        Due.is("the smallest language", house.term(0, 0, 0), 0);
        Due.is("the greatest language", house.term(0, 2, 0), 1);
        Due.fails("language 3", house, INDEX, () -> house.term(0, 3, 0));
        for (int language : OUTSIDE) {
            Due.fails("language " + language, house, INDEX, () -> house.term(0, language, 0));
        }
        Due.is("language 0", house.ofTerm(0, 1), 0);
        Due.is("language 2", house.ofTerm(1, 1), 2);
    }

    // "IllegalArgumentException if stem is not 0 to 19"
    private static void termStem() {
        GlossaryCrown house = Houses.of(0);
        Due.is("the smallest stem", house.term(0, 0, 0), 0);
        Due.is("the greatest stem", house.term(0, 0, 19), 1);
        Due.fails("stem 20", house, ARGUMENT, () -> house.term(0, 0, 20));
        for (int stem : OUTSIDE) {
            Due.fails("stem " + stem, house, ARGUMENT, () -> house.term(0, 0, stem));
        }
        Due.is("a refused one takes no number", house.term(0, 0, 1), 2);
        Due.is("stem 19", house.ofTerm(1, 2), 19);
    }

    // "IllegalStateException if there are 24"
    private static void termsAre24() {
        GlossaryCrown house = Houses.of(0, 0);
        for (int term = 0; term < 23; term++) {
            house.term(term % 2, 0, term / 2);
        }
        Due.is("the 24th", house.term(1, 2, 19), 23);
        Due.fails("the 25th", house, STATE, () -> house.term(0, 1, 19));
        Due.fails("the 25th, which there is", house, STATE, () -> house.term(1, 2, 19));
        Due.is("the last is there", house.ofTerm(23, 1), 2);
        Due.fails("number 24", house, INDEX, () -> house.ofTerm(24, 1));
    }

    // "IllegalStateException if .. that CONCEPT has such a one", whatever its state is
    private static void termThereIsInEachState() {
        GlossaryCrown house = Houses.of(0, 0);
        house.term(0, 0, 0);
        Houses.admitted(house, 0, 0, 1);
        Houses.preferred(house, 0, 0, 2);
        house.ban(Houses.admitted(house, 0, 0, 3), 30);
        for (int stem = 0; stem < 4; stem++) {
            int there = stem;
            Due.is("state " + stem, house.ofTerm(stem, 3), stem);
            Due.fails("again the one in state " + stem, house, STATE, () -> house.term(0, 0, there));
        }
        Due.is("another stem", house.term(0, 0, 4), 4);
        Due.is("another language", house.term(0, 1, 3), 5);
        Due.is("another concept", house.term(1, 0, 3), 6);
    }

    // "no two of one CONCEPT and LANGUAGE have the same STEM", of the one that they are of now
    private static void termThereIsAfterSplitAndJoin() {
        GlossaryCrown house = Houses.of(0);
        house.term(0, 0, 0);
        house.term(0, 0, 1);
        house.split(0, 1, 0);
        Due.fails("in the new concept", house, STATE, () -> house.term(1, 0, 0));
        Due.is("free in the old one", house.term(0, 0, 0), 2);
        GlossaryCrown joined = Houses.of(0, 0);
        joined.term(0, 0, 0);
        joined.term(1, 0, 1);
        joined.join(0, 1);
        Due.fails("come with the join", joined, STATE, () -> joined.term(0, 0, 1));
        Due.is("free in the emptied one", joined.term(1, 0, 1), 2);
    }

    // "If several exceptions apply, the one that is named first is thrown."
    private static void termFirstException() {
        GlossaryCrown house = Houses.of(0);
        Due.fails("no concept, no stem", house, INDEX, () -> house.term(1, 0, 20));
        Due.fails("no language, no stem", house, INDEX, () -> house.term(0, -1, -1));
        for (int term = 0; term < 24; term++) {
            house.term(0, term / 12, term % 12);
        }
        Due.fails("no concept, no room", house, INDEX, () -> house.term(-1, 0, 0));
        Due.fails("no language, no room", house, INDEX, () -> house.term(0, 3, 0));
        Due.fails("no stem, no room", house, ARGUMENT, () -> house.term(0, 2, 20));
    }

    // ---- 4: vote

    private static void testVote() {
        voteTerm();
        voteVoter();
        voteThirdFor();
        voteThirdAgainst();
        voteOnce();
        voteAnew();
        voteOnlyProposed();
    }

    // "IndexOutOfBoundsException if there is no such TERM"
    private static void voteTerm() {
        GlossaryCrown house = Houses.of(0);
        house.term(0, 0, 0);
        house.term(0, 0, 1);
        Due.is("the last term", house.vote(1, 0, true), 0);
        Due.fails("the next term", house, INDEX, () -> house.vote(2, 0, true));
        Due.fails("term 24", house, INDEX, () -> house.vote(24, 0, true));
        for (int term : OUTSIDE) {
            Due.fails("term " + term, house, INDEX, () -> house.vote(term, 0, false));
        }
        Due.is("votes about the other", house.ofTerm(0, 4), 0);
    }

    // "IndexOutOfBoundsException if there is no such .. VOTER"; also ahead of "if it is not PROPOSED"
    private static void voteVoter() {
        GlossaryCrown house = Houses.of(0);
        int term = house.term(0, 0, 0);
        Due.is("the smallest voter", house.vote(term, 0, true), 0);
        Due.is("the greatest voter", house.vote(term, 4, true), 0);
        Due.fails("voter 5", house, INDEX, () -> house.vote(term, 5, true));
        Due.fails("voter 32", house, INDEX, () -> house.vote(term, 32, true));
        for (int voter : OUTSIDE) {
            Due.fails("voter " + voter, house, INDEX, () -> house.vote(term, voter, true));
        }
        house.vote(term, 2, true);
        Due.fails("ADMITTED, voter 5", house, INDEX, () -> house.vote(term, 5, true));
        Due.fails("ADMITTED, voter -1", house, INDEX, () -> house.vote(term, -1, false));
    }

    // "with 3 for it, it is ADMITTED"
    private static void voteThirdFor() {
        GlossaryCrown house = Houses.of(0);
        int term = house.term(0, 0, 0);
        Due.is("1 for", house.vote(term, 2, true), 0);
        Due.is("2 for", house.vote(term, 0, true), 0);
        Due.is("state with 2", house.ofTerm(term, 3), 0);
        Due.is("1 against", house.vote(term, 1, false), 0);
        Due.is("2 against", house.vote(term, 3, false), 0);
        Due.is("3 for", house.vote(term, 4, true), 1);
        Due.is("state with 3", house.ofTerm(term, 3), 1);
    }

    // "with 3 against it, all votes about it are gone"
    private static void voteThirdAgainst() {
        GlossaryCrown house = Houses.of(0);
        int term = house.term(0, 0, 0);
        int other = house.term(0, 0, 1);
        house.vote(other, 0, false);
        house.vote(term, 0, true);
        house.vote(term, 1, true);
        house.vote(term, 2, false);
        house.vote(term, 3, false);
        Due.is("2 against", house.ofTerm(term, 5), 2);
        Due.is("3 against", house.vote(term, 4, false), 0);
        Due.is("gone for", house.ofTerm(term, 4), 0);
        Due.is("gone against", house.ofTerm(term, 5), 0);
        Due.is("not about another one", house.ofTerm(other, 5), 1);
    }

    // "each can vote once"; "IllegalStateException if .. the VOTER has voted"
    private static void voteOnce() {
        GlossaryCrown house = Houses.of(0);
        int term = house.term(0, 0, 0);
        int other = house.term(0, 0, 1);
        house.vote(term, 0, true);
        house.vote(term, 4, false);
        Due.fails("for, again", house, STATE, () -> house.vote(term, 0, true));
        Due.fails("for, then against", house, STATE, () -> house.vote(term, 0, false));
        Due.fails("against, then for", house, STATE, () -> house.vote(term, 4, true));
        Due.fails("against, again", house, STATE, () -> house.vote(term, 4, false));
        Due.is("about another one", house.vote(other, 0, true), 0);
        Due.is("another voter", house.vote(term, 1, true), 0);
    }

    // "and it is voted on anew", as often as it comes to that
    private static void voteAnew() {
        GlossaryCrown house = Houses.of(0);
        int term = house.term(0, 0, 0);
        for (int round = 0; round < 3; round++) {
            for (int voter = 2; voter < 5; voter++) {
                Due.is("against, round " + round, house.vote(term, voter, false), 0);
            }
        }
        for (int voter = 2; voter < 4; voter++) {
            Due.is("for, of one who was against", house.vote(term, voter, true), 0);
        }
        Due.is("the third", house.vote(term, 4, true), 1);
    }

    // "IllegalStateException if it is not PROPOSED"
    private static void voteOnlyProposed() {
        GlossaryCrown house = Houses.of(0);
        int term = Houses.admitted(house, 0, 0, 0);
        Due.fails("ADMITTED", house, STATE, () -> house.vote(term, 3, true));
        house.prefer(term);
        Due.fails("PREFERRED", house, STATE, () -> house.vote(term, 3, false));
        house.ban(term, 1);
        Due.fails("BANNED", house, STATE, () -> house.vote(term, 4, true));
        house.allow(term);
        Due.fails("let again", house, STATE, () -> house.vote(term, 4, false));
    }

    // ---- 5: prefer

    private static void testPrefer() {
        preferTerm();
        preferNone();
        preferOtherPlaces();
        preferOnlyAdmitted();
    }

    // "IndexOutOfBoundsException if there is no such TERM"
    private static void preferTerm() {
        GlossaryCrown house = Houses.of(0);
        Houses.admitted(house, 0, 0, 0);
        Houses.admitted(house, 0, 0, 1);
        Due.is("the last term", house.prefer(1), NONE);
        Due.fails("the next term", house, INDEX, () -> house.prefer(2));
        Due.fails("term 24", house, INDEX, () -> house.prefer(24));
        for (int term : OUTSIDE) {
            Due.fails("term " + term, house, INDEX, () -> house.prefer(term));
        }
    }

    // "Returns the one that was; NONE without one."
    private static void preferNone() {
        GlossaryCrown house = Houses.of(0);
        int zero = Houses.admitted(house, 0, 0, 0);
        int one = Houses.admitted(house, 0, 0, 1);
        Due.is("without one", house.prefer(zero), NONE);
        Due.is("TERM 0 was", house.prefer(one), zero);
        Due.is("TERM 1 was", house.prefer(zero), one);
        house.ban(zero, 0);
        Due.is("the one that was is BANNED", house.prefer(one), NONE);
        house.allow(zero);
        Due.is("and let again", house.prefer(zero), one);
    }

    // "At most one TERM of each CONCEPT and LANGUAGE is PREFERRED.", of the one that they are of now
    private static void preferOtherPlaces() {
        GlossaryCrown house = Houses.of(0, 0);
        int moved = Houses.preferred(house, 0, 0, 0);
        int stays = Houses.admitted(house, 0, 0, 1);
        int language = Houses.preferred(house, 0, 1, 1);
        int concept = Houses.preferred(house, 1, 0, 1);
        house.split(0, 1 << moved, 0);
        Due.is("the one that was is of another concept now", house.prefer(stays), NONE);
        Due.is("it stays PREFERRED there", house.ofTerm(moved, 3), 2);
        Due.is("so does that of another language", house.ofTerm(language, 3), 2);
        Due.is("and that of another concept", house.ofTerm(concept, 3), 2);
    }

    // "IllegalStateException if it is not ADMITTED"
    private static void preferOnlyAdmitted() {
        GlossaryCrown house = Houses.of(0);
        int term = house.term(0, 0, 0);
        Due.fails("PROPOSED", house, STATE, () -> house.prefer(term));
        Houses.admit(house, term);
        house.prefer(term);
        Due.fails("PREFERRED", house, STATE, () -> house.prefer(term));
        house.ban(term, 30);
        Due.fails("BANNED", house, STATE, () -> house.prefer(term));
        house.allow(term);
        Due.is("let again", house.prefer(term), NONE);
    }
}
