/**
 * "At the end of each call that changes something, DOCUMENT by DOCUMENT: if one of its TEXTS is APPROVED, and has a USE
 * that is BANNED, and of which GRACE is over, all its TEXTS that are APPROVED are REOPENED.": each part of that
 * sentence, and each call that can bring it about.
 */
public final class ReopenBoundsTest {
    private static final int DRAFT = 0;
    private static final int APPROVED = 1;
    private static final int REOPENED = 2;

    public static void main(String[] args) {
        atTheEndOfBan();
        atTheEndOfPass();
        atTheEndOfVote();
        atTheEndOfVoteInGrace();
        atTheEndOfSplit();
        atTheEndOfSplitInGrace();
        atTheEndOfJoin();
        atTheEndOfJoinInGrace();
        notAtTheEndOfOtherCalls();
        documentByDocument();
        inAllLanguages();
        onlyTextsThatAreApproved();
        notByADraft();
        notByOneThatIsReopened();
        Due.close("ReopenBoundsTest");
    }

    private static void stateIs(String what, GlossaryCrown house, int document, int language, int due) {
        Due.is(what + ", state of text " + document + ", " + language, house.ofText(document, language, 1), due);
    }

    /** TERM 0 in the TEXTS of all LANGUAGES but the last; all three are APPROVED. */
    private static GlossaryCrown ofOneDocument() {
        GlossaryCrown house = Houses.of(0);
        Houses.admitted(house, 0, 0, 0);
        Houses.admitted(house, 0, 1, 0);
        Houses.documents(house, 1);
        Houses.write(house, 0, 0, 0);
        Houses.write(house, 0, 1, 0);
        Houses.write(house, 0, 2, 0);
        for (int language = 0; language < 3; language++) {
            house.approve(0, language);
        }
        return house;
    }

    private static void atTheEndOfBan() {
        GlossaryCrown house = ofOneDocument();
        Due.is("with grace", house.ban(0, 1), 0);
        stateIs("with grace", house, 0, 0, APPROVED);
        Due.is("without grace", house.ban(1, 0), 3);
        stateIs("without grace", house, 0, 0, REOPENED);
    }

    private static void atTheEndOfPass() {
        GlossaryCrown house = ofOneDocument();
        house.ban(0, 2);
        Due.is("before its day", house.pass(1), 0);
        Due.is("on its day", house.pass(1), 3);
        Due.is("behind it", house.pass(1), 0);
    }

    /** The FORM 4 is TERM 0 by what stands near; when that is not PLAIN any more, it is TERM 1, which is BANNED. */
    private static GlossaryCrown beforeTheVote(int grace) {
        GlossaryCrown house = Houses.of(1, 0, 0, 2);
        int banned = Houses.admitted(house, 0, 0, 1);
        Houses.admitted(house, 1, 0, 1);
        Houses.admitted(house, 2, 0, 2);
        int late = house.term(3, 0, 2);
        house.ban(banned, grace);
        Houses.documents(house, 1);
        Houses.write(house, 0, 0, 4, 8);
        Houses.write(house, 0, 1, 60);
        house.approve(0, 0);
        house.approve(0, 1);
        house.vote(late, 0, true);
        house.vote(late, 1, true);
        stateIs("before the vote", house, 0, 0, APPROVED);
        return house;
    }

    private static void atTheEndOfVote() {
        GlossaryCrown house = beforeTheVote(0);
        Due.is("the use before", house.use(0, 0, 0), 1);
        house.vote(3, 4, false);
        stateIs("a vote against", house, 0, 0, APPROVED);
        Due.is("the state of the TERM", house.vote(3, 2, true), 1);
        Due.is("the use then", house.use(0, 0, 0), 0);
        stateIs("the third vote", house, 0, 0, REOPENED);
        stateIs("the third vote", house, 0, 1, REOPENED);
    }

    private static void atTheEndOfVoteInGrace() {
        GlossaryCrown house = beforeTheVote(2);
        house.vote(3, 2, true);
        Due.is("an APPROVED text with a BANNED use", house.ofText(0, 0, 3), 1);
        stateIs("in the grace", house, 0, 0, APPROVED);
        Due.is("told ahead", house.reopenedIn(2), 2);
        Due.is("before its day", house.pass(1), 0);
        Due.is("on its day", house.pass(1), 2);
    }

    /** The FORM 0 is TERM 0; when the near TERM 2 has the DOMAIN 1, it is TERM 1, which is BANNED. */
    private static GlossaryCrown beforeTheSplit(int grace) {
        GlossaryCrown house = Houses.of(0, 1, 1);
        Houses.admitted(house, 0, 0, 0);
        int banned = Houses.admitted(house, 1, 0, 0);
        Houses.admitted(house, 0, 0, 1);
        Houses.documents(house, 1);
        Houses.write(house, 0, 0, 0, 4);
        Houses.write(house, 0, 2, 0);
        house.ban(banned, grace);
        house.approve(0, 0);
        house.approve(0, 2);
        return house;
    }

    private static void atTheEndOfSplit() {
        GlossaryCrown house = beforeTheSplit(0);
        house.split(0, 1 << 2, 2);
        stateIs("another domain", house, 0, 0, APPROVED);
        GlossaryCrown other = beforeTheSplit(0);
        Due.is("the new concept", other.split(0, 1 << 2, 1), 3);
        Due.is("the use then", other.use(0, 0, 0), 1);
        stateIs("the domain of the BANNED one", other, 0, 0, REOPENED);
        stateIs("the domain of the BANNED one", other, 0, 2, REOPENED);
    }

    private static void atTheEndOfSplitInGrace() {
        GlossaryCrown house = beforeTheSplit(30);
        house.split(0, 1 << 2, 1);
        Due.is("an APPROVED text with a BANNED use", house.ofText(0, 0, 4), 0);
        stateIs("in the grace", house, 0, 0, APPROVED);
        Due.is("before its day", house.pass(29), 0);
        Due.is("on its day", house.pass(1), 2);
    }

    /** The FORM 0 is TERM 0; when the near TERM 2 is of CONCEPT 0, it is TERM 1, which is BANNED. */
    private static GlossaryCrown beforeTheJoin(int grace) {
        GlossaryCrown house = Houses.of(1, 0, 0);
        Houses.admitted(house, 1, 0, 0);
        int banned = Houses.admitted(house, 0, 0, 0);
        Houses.admitted(house, 2, 0, 1);
        Houses.documents(house, 1);
        Houses.write(house, 0, 0, 0, 4);
        Houses.write(house, 0, 2, 0);
        house.ban(banned, grace);
        house.approve(0, 0);
        house.approve(0, 2);
        return house;
    }

    private static void atTheEndOfJoin() {
        GlossaryCrown house = beforeTheJoin(0);
        house.join(1, 2);
        stateIs("the domain stays", house, 0, 0, APPROVED);
        GlossaryCrown other = beforeTheJoin(0);
        Due.is("the terms then", other.join(2, 0), 2);
        Due.is("the use then", other.use(0, 0, 0), 1);
        stateIs("the domain of the BANNED one", other, 0, 0, REOPENED);
        stateIs("the domain of the BANNED one", other, 0, 2, REOPENED);
    }

    private static void atTheEndOfJoinInGrace() {
        GlossaryCrown house = beforeTheJoin(1);
        house.join(0, 2);
        Due.is("an APPROVED text with a BANNED use", house.ofText(0, 0, 4), 0);
        stateIs("in the grace", house, 0, 0, APPROVED);
        house.allow(1);
        Due.is("let again on its last day", house.pass(1), 0);
        house.ban(1, 0);
        stateIs("BANNED again", house, 0, 0, REOPENED);
    }

    private static void notAtTheEndOfOtherCalls() {
        GlossaryCrown house = ofOneDocument();
        house.ban(0, 30);
        house.concept(0);
        house.term(0, 0, 5);
        house.prefer(1);
        house.document();
        house.write(1, 0, 0, 0);
        house.cut(1, 0);
        house.write(1, 0, 0, 60);
        house.approve(1, 0);
        house.ban(1, 30);
        house.allow(1);
        Due.is("all are APPROVED still", house.many(9), 4);
    }

    // "DOCUMENT by DOCUMENT"; "all its TEXTS"
    private static void documentByDocument() {
        for (int used = 0; used < 6; used++) {
            GlossaryCrown house = Houses.of(0, 0);
            int term = Houses.admitted(house, 0, 0, 0);
            Houses.admitted(house, 1, 1, 1);
            Houses.documents(house, 6);
            for (int document = 0; document < 6; document++) {
                Houses.write(house, document, 0, document == used ? 0 : 60);
                Houses.write(house, document, 1, 4);
                house.approve(document, 0);
                house.approve(document, 1);
            }
            Due.is("documents with the concept", house.ofConcept(0, 6), 1);
            Due.is("agreement of that one", house.agreement(used), 0);
            Due.is("used in " + used, house.ban(term, 0), 2);
            for (int document = 0; document < 6; document++) {
                stateIs("used in " + used, house, document, 1, document == used ? REOPENED : APPROVED);
            }
        }
    }

    // "a term that is banned reopens each document that uses it, in all languages"
    private static void inAllLanguages() {
        for (int language = 0; language < 3; language++) {
            GlossaryCrown house = Houses.of(0);
            int term = Houses.admitted(house, 0, language, 0);
            Houses.documents(house, 1);
            for (int other = 0; other < 3; other++) {
                Houses.write(house, 0, other, 0);
                house.approve(0, other);
            }
            Due.is("of language " + language, house.ban(term, 0), 3);
        }
    }

    // "all its TEXTS that are APPROVED": a DRAFT stays one, with the USE and without, with a FORM and without
    private static void onlyTextsThatAreApproved() {
        GlossaryCrown house = Houses.of(0);
        Houses.admitted(house, 0, 0, 0);
        Houses.admitted(house, 0, 1, 0);
        Houses.documents(house, 2);
        Houses.write(house, 0, 0, 0);
        Houses.write(house, 0, 1, 0);
        Houses.write(house, 1, 0, 0);
        house.approve(0, 0);
        house.approve(1, 0);
        Due.is("the APPROVED ones", house.ban(0, 0), 2);
        stateIs("a DRAFT", house, 0, 1, DRAFT);
        stateIs("one without a form", house, 1, 1, DRAFT);
        stateIs("one without a form", house, 1, 2, DRAFT);
    }

    // "if one of its TEXTS is APPROVED, and has a USE": the USE of a DRAFT reopens nothing
    private static void notByADraft() {
        GlossaryCrown house = Houses.of(0);
        int term = Houses.admitted(house, 0, 0, 0);
        Houses.documents(house, 1);
        Houses.write(house, 0, 0, 0);
        Houses.write(house, 0, 1, 60);
        house.approve(0, 1);
        Due.is("in a DRAFT", house.ban(term, 0), 0);
        Due.is("later", house.pass(40), 0);
        house.write(0, 0, 1, 0);
        stateIs("another one is written", house, 0, 1, APPROVED);
    }

    // "if one of its TEXTS is APPROVED, and has a USE": nor does that of one that is REOPENED
    private static void notByOneThatIsReopened() {
        GlossaryCrown house = Houses.of(0);
        int term = Houses.admitted(house, 0, 0, 0);
        Houses.documents(house, 1);
        Houses.write(house, 0, 0, 0);
        Houses.write(house, 0, 1, 60);
        house.approve(0, 0);
        house.approve(0, 1);
        Due.is("both", house.ban(term, 0), 2);
        house.approve(0, 1);
        stateIs("APPROVED again, at the end of the call", house, 0, 1, APPROVED);
        Due.is("told ahead", house.reopenedIn(40), 0);
        Due.is("later", house.pass(40), 0);
        stateIs("APPROVED still", house, 0, 1, APPROVED);
        stateIs("the one with the use", house, 0, 0, REOPENED);
    }
}
