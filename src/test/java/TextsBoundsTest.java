/**
 * Promises 16 to 18, sentence by sentence: what is too small, too large, empty, full, or refused.
 * Ahead of each test stands the sentence of the document that it is about.
 */
public final class TextsBoundsTest {
    private static final Class<?> INDEX = Houses.INDEX;
    private static final Class<?> ARGUMENT = Houses.ARGUMENT;
    private static final int NONE = Houses.NONE;
    private static final int[] OUTSIDE = Houses.OUTSIDE;

    public static void main(String[] args) {
        testUse();
        testUseOfSeveral();
        testOfText();
        testAgreement();
        Due.close("TextsBoundsTest");
    }

    // ---- 16: use

    private static void testUse() {
        useText();
        usePlace();
        useNone();
        useOfEachState();
        useOfTheLanguage();
    }

    private static void testUseOfSeveral() {
        useThreePlacesBehind();
        useThreePlacesAhead();
        useDoesNotGoRound();
        useAtBothEndsOfAFullText();
        useSmallestNumber();
        useOfThree();
        useCountsForms();
        useCountsPlainForms();
        useSameDomain();
        useOtherTexts();
    }

    // "IndexOutOfBoundsException if there is no such DOCUMENT, LANGUAGE"
    private static void useText() {
        GlossaryCrown house = new GlossaryCrown();
        Houses.documents(house, 2);
        Houses.write(house, 0, 0, 0);
        Houses.write(house, 1, 2, 0);
        Houses.write(house, 0, 2, 0);
        Due.is("the first text", house.use(0, 0, 0), NONE);
        Due.is("the last text", house.use(1, 2, 0), NONE);
        Due.fails("the next document", house, INDEX, () -> house.use(2, 0, 0));
        Due.fails("document 6", house, INDEX, () -> house.use(6, 0, 0));
        Due.fails("language 3", house, INDEX, () -> house.use(0, 3, 0));
        Due.fails("language -1 of the second", house, INDEX, () -> house.use(1, -1, 0));
        for (int number : OUTSIDE) {
            Due.fails("document " + number, house, INDEX, () -> house.use(number, 0, 0));
            Due.fails("language " + number, house, INDEX, () -> house.use(0, number, 0));
        }
    }

    // "place: a PLACE with a FORM"; "IndexOutOfBoundsException if there is no such .. PLACE"
    private static void usePlace() {
        GlossaryCrown house = Houses.of(0);
        int term = Houses.admitted(house, 0, 0, 0);
        Houses.documents(house, 1);
        Due.fails("place 0 of none", house, INDEX, () -> house.use(0, 0, 0));
        Houses.writeTimes(house, 0, 0, 0, 12);
        Due.is("place 0 of 12", house.use(0, 0, 0), term);
        Due.is("place 11 of 12", house.use(0, 0, 11), term);
        Due.fails("place 12 of 12", house, INDEX, () -> house.use(0, 0, 12));
        house.cut(0, 0);
        Due.is("place 10 of 11", house.use(0, 0, 10), term);
        Due.fails("place 11 of 11", house, INDEX, () -> house.use(0, 0, 11));
        Due.fails("place 0 of another text", house, INDEX, () -> house.use(0, 1, 0));
        for (int place : OUTSIDE) {
            Due.fails("place " + place, house, INDEX, () -> house.use(0, 0, place));
        }
    }

    // "NONE, if it CAN BE none"; "FORM / 4 is its STEM"
    private static void useNone() {
        GlossaryCrown house = Houses.of(0);
        int term = Houses.admitted(house, 0, 0, 10);
        Houses.documents(house, 1);
        Houses.write(house, 0, 0, 39, 40, 41, 42, 43, 44, 0, 79);
        Houses.usesAre("the four forms of the stem", house, 0, 0, NONE, term, term, term, term, NONE, NONE, NONE);
    }

    // "that is not PROPOSED": ADMITTED, PREFERRED and BANNED ones
    private static void useOfEachState() {
        GlossaryCrown house = Houses.of(0);
        int term = house.term(0, 0, 0);
        Houses.documents(house, 1);
        Houses.write(house, 0, 0, 0);
        house.vote(term, 0, true);
        house.vote(term, 1, true);
        Due.is("PROPOSED", house.use(0, 0, 0), NONE);
        house.vote(term, 2, true);
        Due.is("ADMITTED", house.use(0, 0, 0), term);
        house.prefer(term);
        Due.is("PREFERRED", house.use(0, 0, 0), term);
        house.ban(term, 1);
        Due.is("BANNED, in its grace", house.use(0, 0, 0), term);
        house.pass(1);
        Due.is("BANNED", house.use(0, 0, 0), term);
        house.allow(term);
        Due.is("let again", house.use(0, 0, 0), term);
    }

    // "A FORM CAN BE each TERM of its LANGUAGE"
    private static void useOfTheLanguage() {
        GlossaryCrown house = Houses.of(0);
        for (int language = 0; language < 3; language++) {
            Houses.admitted(house, 0, language, 0);
        }
        Houses.documents(house, 1);
        for (int language = 0; language < 3; language++) {
            Houses.write(house, 0, language, 0);
            Due.is("of language " + language, house.use(0, language, 0), language);
            Due.is("no more than one", house.ofText(0, language, 6), 0);
        }
    }

    /**
     * The STEM 0 can be TERM 0 of CONCEPT 0 (DOMAIN 0) or TERM 1 of CONCEPT 1 (DOMAIN 1); the STEM 1 is TERM 2 of
     * CONCEPT 0, and the STEM 2 is TERM 3 of CONCEPT 1.
     */
    private static GlossaryCrown ofTwo() {
        GlossaryCrown house = Houses.of(0, 1);
        Houses.admitted(house, 0, 0, 0);
        Houses.admitted(house, 1, 0, 0);
        Houses.admitted(house, 0, 0, 1);
        Houses.admitted(house, 1, 0, 2);
        Houses.documents(house, 2);
        return house;
    }

    // "that are at most 3 PLACES away", behind it
    private static void useThreePlacesBehind() {
        for (int away = 1; away <= 5; away++) {
            GlossaryCrown house = ofTwo();
            Houses.write(house, 0, 0, 0);
            Houses.writeTimes(house, 0, 0, 60, away - 1);
            Houses.write(house, 0, 0, 8);
            Due.is("a near one " + away + " behind", house.use(0, 0, 0), away <= 3 ? 1 : 0);
        }
    }

    // "that are at most 3 PLACES away", ahead of it
    private static void useThreePlacesAhead() {
        for (int away = 1; away <= 5; away++) {
            GlossaryCrown house = ofTwo();
            Houses.write(house, 0, 0, 8);
            Houses.writeTimes(house, 0, 0, 60, away - 1);
            Houses.write(house, 0, 0, 0);
            Due.is("a near one " + away + " ahead", house.use(0, 0, away), away <= 3 ? 1 : 0);
        }
    }

    // "at most 3 PLACES away": the last PLACE is not near to the first
    private static void useDoesNotGoRound() {
        GlossaryCrown house = ofTwo();
        Houses.write(house, 0, 0, 0);
        Houses.writeTimes(house, 0, 0, 60, 8);
        Houses.writeTimes(house, 0, 0, 8, 3);
        Due.is("the first, with 8s on the last three", house.use(0, 0, 0), 0);
        Houses.writeTimes(house, 1, 0, 8, 3);
        Houses.writeTimes(house, 1, 0, 60, 8);
        Houses.write(house, 1, 0, 0);
        Due.is("the last, with 8s on the first three", house.use(1, 0, 11), 0);
    }

    // "on the PLACES 0 to 11": near to the ends of a TEXT that is full
    private static void useAtBothEndsOfAFullText() {
        GlossaryCrown house = ofTwo();
        Houses.write(house, 0, 0, 0, 60, 60, 8);
        Houses.writeTimes(house, 0, 0, 60, 4);
        Houses.write(house, 0, 0, 8, 60, 60, 0);
        Due.is("place 0", house.use(0, 0, 0), 1);
        Due.is("place 11", house.use(0, 0, 11), 1);
        house.write(0, 0, 10, 4);
        Due.is("place 11, one against one", house.use(0, 0, 11), 0);
    }

    // "of several the smallest number"
    private static void useSmallestNumber() {
        GlossaryCrown house = ofTwo();
        Houses.write(house, 0, 0, 0);
        Due.is("none against none", house.use(0, 0, 0), 0);
        Houses.write(house, 0, 0, 8);
        Due.is("none against one", house.use(0, 0, 0), 1);
        Houses.write(house, 0, 0, 4);
        Due.is("one against one", house.use(0, 0, 0), 0);
        GlossaryCrown turned = Houses.of(1, 0);
        Houses.admitted(turned, 1, 0, 0);
        Houses.admitted(turned, 0, 0, 0);
        Houses.documents(turned, 1);
        Houses.write(turned, 0, 0, 0);
        Due.is("the number of the TERM, not that of its CONCEPT", turned.use(0, 0, 0), 0);
    }

    // "otherwise, of those that it CAN BE, the one for which the most": of more than two
    private static void useOfThree() {
        GlossaryCrown house = Houses.of(0, 1, 2, 3);
        for (int concept = 0; concept < 4; concept++) {
            Houses.admitted(house, concept, 0, 0);
            Houses.admitted(house, concept, 0, 1 + concept);
        }
        Houses.documents(house, 1);
        Houses.write(house, 0, 0, 0, 16, 12, 8);
        Due.is("one of each of three: the smallest of these", house.use(0, 0, 0), 2);
        house.write(0, 0, 3, 16);
        Due.is("two against one", house.use(0, 0, 0), 6);
        house.write(0, 0, 1, 12);
        Due.is("one against two", house.use(0, 0, 0), 4);
        Due.is("that CAN BE several", house.ofText(0, 0, 6), 1);
    }

    // "the most PLAIN FORMS of the TEXT": each FORM counts, of one TERM too
    private static void useCountsForms() {
        GlossaryCrown house = ofTwo();
        Houses.write(house, 0, 0, 4, 4, 60, 0, 8, 9, 11);
        Due.is("two of one term against three of another", house.use(0, 0, 3), 1);
        house.write(0, 0, 2, 5);
        Due.is("three against three", house.use(0, 0, 3), 0);
    }

    // "the most PLAIN FORMS": not those that CAN BE several, nor those that CAN BE none
    private static void useCountsPlainForms() {
        GlossaryCrown house = ofTwo();
        Houses.write(house, 0, 0, 8, 60, 60, 0, 60, 60, 0);
        Due.is("by a plain one", house.use(0, 0, 3), 1);
        Due.is("not by one that is told apart itself", house.use(0, 0, 6), 0);
        int late = house.term(1, 0, 15);
        Due.is("not by a PROPOSED one", house.use(0, 0, 6), 0);
        Houses.admit(house, late);
        Due.is("but by an ADMITTED one", house.use(0, 0, 6), 1);
    }

    // "are TERMS whose CONCEPT has the same DOMAIN as its own": the CONCEPT can be another, the first one too
    private static void useSameDomain() {
        GlossaryCrown house = Houses.of(1, 0, 1, 0);
        Houses.admitted(house, 1, 0, 0);
        int first = Houses.admitted(house, 0, 0, 0);
        Houses.admitted(house, 2, 0, 1);
        Houses.admitted(house, 3, 0, 2);
        Houses.documents(house, 1);
        Houses.write(house, 0, 0, 0, 4);
        Due.is("of another concept of the domain", house.use(0, 0, 0), first);
        Due.is("if it was written there", house.formFor(0, 0, 2, first), 0);
        Houses.write(house, 0, 0, 8, 8);
        Due.is("two of the other domain", house.use(0, 0, 0), 0);
    }

    // "the most PLAIN FORMS of the TEXT": not those of other TEXTS
    private static void useOtherTexts() {
        GlossaryCrown house = ofTwo();
        Houses.write(house, 0, 0, 0);
        Houses.write(house, 1, 0, 8, 8, 8);
        Houses.write(house, 0, 1, 8, 8, 8);
        Due.is("alone in its text", house.use(0, 0, 0), 0);
    }

    // ---- 17: ofText

    private static void testOfText() {
        ofTextRange();
        ofTextFirstException();
        ofTextEmpty();
        ofTextFull();
        ofTextBanned();
        ofTextState();
        ofTextAmbiguous();
    }

    // "IndexOutOfBoundsException if there is no such DOCUMENT, or LANGUAGE"
    private static void ofTextRange() {
        GlossaryCrown house = new GlossaryCrown();
        Houses.documents(house, 2);
        Due.is("the first text", house.ofText(0, 0, 0), 0);
        Due.is("the last text", house.ofText(1, 2, 6), 0);
        Due.fails("the next document", house, INDEX, () -> house.ofText(2, 0, 0));
        Due.fails("document 6", house, INDEX, () -> house.ofText(6, 0, 0));
        Due.fails("language 3", house, INDEX, () -> house.ofText(0, 3, 0));
        Due.fails("language -1 of the second", house, INDEX, () -> house.ofText(1, -1, 0));
        for (int number : OUTSIDE) {
            Due.fails("document " + number, house, INDEX, () -> house.ofText(number, 0, 0));
            Due.fails("language " + number, house, INDEX, () -> house.ofText(0, number, 0));
        }
    }

    // "IllegalArgumentException if what is not 0 to 6", after the other
    private static void ofTextFirstException() {
        GlossaryCrown house = new GlossaryCrown();
        Houses.documents(house, 1);
        Due.fails("what 7", house, ARGUMENT, () -> house.ofText(0, 0, 7));
        for (int what : OUTSIDE) {
            Due.fails("what " + what, house, ARGUMENT, () -> house.ofText(0, 0, what));
        }
        Due.fails("no document, what 7", house, INDEX, () -> house.ofText(1, 0, 7));
        Due.fails("no language, what -1", house, INDEX, () -> house.ofText(0, 3, -1));
    }

    private static void textIs(String which, GlossaryCrown house, int document, int language, int... due) {
        for (int what = 0; what < due.length; what++) {
            Due.is(which + ", ofText " + what, house.ofText(document, language, what), due[what]);
        }
    }

    // "4 the PLACE of the first one that is (NONE)"; "100 without USES"
    private static void ofTextEmpty() {
        GlossaryCrown house = Houses.of(0);
        int term = Houses.admitted(house, 0, 0, 0);
        Houses.documents(house, 1);
        textIs("without forms", house, 0, 0, 0, 0, 0, 0, NONE, 100, 0);
        Houses.write(house, 0, 0, 60, 61);
        textIs("without uses", house, 0, 0, 2, 0, 0, 0, NONE, 100, 0);
        house.write(0, 0, 0, 0);
        textIs("one use", house, 0, 0, 2, 0, 1, 0, NONE, 0, 0);
        house.ban(term, 0);
        house.cut(0, 0);
        textIs("one BANNED use", house, 0, 0, 1, 0, 1, 1, 0, 0, 0);
        house.cut(0, 0);
        textIs("without forms again", house, 0, 0, 0, 0, 0, 0, NONE, 100, 0);
    }

    // "up to 12 FORMS": all of them
    private static void ofTextFull() {
        GlossaryCrown house = Houses.of(0, 0);
        int term = Houses.preferred(house, 0, 2, 19);
        Houses.documents(house, 6);
        Houses.writeTimes(house, 5, 2, 79, 12);
        textIs("all PREFERRED", house, 5, 2, 12, 0, 12, 0, NONE, 100, 0);
        Houses.admitted(house, 1, 2, 19);
        textIs("all of two", house, 5, 2, 12, 0, 12, 0, NONE, 100, 12);
        house.ban(term, 30);
        textIs("all BANNED", house, 5, 2, 12, 0, 12, 12, 0, 0, 12);
    }

    // "3 how many of these are BANNED, 4 the PLACE of the first one that is (NONE)", in the GRACE too
    private static void ofTextBanned() {
        GlossaryCrown house = Houses.of(0);
        int zero = Houses.admitted(house, 0, 0, 0);
        int one = Houses.admitted(house, 0, 0, 1);
        Houses.documents(house, 1);
        Houses.writeTimes(house, 0, 0, 60, 10);
        Houses.write(house, 0, 0, 4, 0);
        house.ban(zero, 30);
        textIs("on the last place", house, 0, 0, 12, 0, 2, 1, 11, 0, 0);
        house.ban(one, 0);
        textIs("on the last two", house, 0, 0, 12, 0, 2, 2, 10, 0, 0);
        house.write(0, 0, 0, 0);
        textIs("on the first place too", house, 0, 0, 12, 0, 3, 3, 0, 0, 0);
        house.allow(zero);
        textIs("one of two is let again", house, 0, 0, 12, 0, 3, 1, 10, 0, 0);
        house.allow(one);
        textIs("none is BANNED any more", house, 0, 0, 12, 0, 3, 0, NONE, 0, 0);
    }

    // "A TEXT is a DRAFT (0, at first), APPROVED (1), or REOPENED (2)."
    private static void ofTextState() {
        GlossaryCrown house = Houses.of(0);
        int term = Houses.admitted(house, 0, 0, 0);
        Houses.documents(house, 1);
        Due.is("at first", house.ofText(0, 0, 1), 0);
        Houses.write(house, 0, 0, 0);
        Due.is("written", house.ofText(0, 0, 1), 0);
        house.approve(0, 0);
        Due.is("APPROVED", house.ofText(0, 0, 1), 1);
        house.ban(term, 0);
        Due.is("REOPENED", house.ofText(0, 0, 1), 2);
        house.cut(0, 0);
        Due.is("cut", house.ofText(0, 0, 1), 0);
    }

    // "6 how many FORMS CAN BE more than one TERM": none, one, of two and of three, not PROPOSED ones
    private static void ofTextAmbiguous() {
        GlossaryCrown house = Houses.of(0, 1, 2);
        Houses.admitted(house, 0, 0, 0);
        int two = house.term(1, 0, 0);
        int three = house.term(2, 0, 0);
        Houses.documents(house, 1);
        Houses.write(house, 0, 0, 0, 3, 4);
        Due.is("one, and two PROPOSED", house.ofText(0, 0, 6), 0);
        Houses.admit(house, three);
        Due.is("two, and one PROPOSED", house.ofText(0, 0, 6), 2);
        Houses.admit(house, two);
        Due.is("three", house.ofText(0, 0, 6), 2);
        house.ban(two, 0);
        Due.is("three, one of them BANNED", house.ofText(0, 0, 6), 2);
    }

    // ---- 18: agreement

    private static void testAgreement() {
        agreementDocument();
        agreementWithoutAny();
        agreementOfEachDocument();
        agreementOfTextsWithAForm();
        agreementIsCut();
        agreementCountsConcepts();
    }

    // "IndexOutOfBoundsException if there is no such DOCUMENT"
    private static void agreementDocument() {
        GlossaryCrown house = new GlossaryCrown();
        Houses.documents(house, 2);
        Due.is("the first document", house.agreement(0), 100);
        Due.is("the last document", house.agreement(1), 100);
        Due.fails("the next document", house, INDEX, () -> house.agreement(2));
        Due.fails("document 6", house, INDEX, () -> house.agreement(6));
        for (int document : OUTSIDE) {
            Due.fails("document " + document, house, INDEX, () -> house.agreement(document));
        }
    }

    // "100 without any"
    private static void agreementWithoutAny() {
        GlossaryCrown house = Houses.of(0);
        Houses.admitted(house, 0, 0, 0);
        Houses.documents(house, 1);
        Due.is("without forms", house.agreement(0), 100);
        Houses.write(house, 0, 0, 60);
        Houses.write(house, 0, 1, 0);
        Due.is("without uses", house.agreement(0), 100);
        house.cut(0, 0);
        house.cut(0, 1);
        Due.is("without forms again", house.agreement(0), 100);
    }

    // "AGREEMENT of a DOCUMENT": of its own TEXTS alone
    private static void agreementOfEachDocument() {
        for (int one = 0; one < 6; one++) {
            GlossaryCrown house = Houses.of(0);
            Houses.admitted(house, 0, 1, 0);
            Houses.documents(house, 6);
            Houses.write(house, one, 0, 0);
            Houses.write(house, one, 1, 0);
            for (int document = 0; document < 6; document++) {
                Due.is("of " + document + ", written is " + one, house.agreement(document), document == one ? 0 : 100);
            }
        }
    }

    // "how many have a USE in each of its TEXTS that have a FORM": all, none, and not in those without a FORM
    private static void agreementOfTextsWithAForm() {
        GlossaryCrown house = Houses.of(0, 0);
        for (int language = 0; language < 3; language++) {
            Houses.admitted(house, 0, language, 0);
            Houses.admitted(house, 1, language, 1);
        }
        Houses.documents(house, 2);
        Houses.write(house, 0, 1, 0);
        Due.is("in the only one", house.agreement(0), 100);
        Houses.write(house, 0, 0, 4);
        Due.is("none in both", house.agreement(0), 0);
        Houses.write(house, 0, 0, 0);
        Due.is("one of two in both", house.agreement(0), 50);
        Houses.write(house, 0, 1, 4);
        Due.is("two of two in both", house.agreement(0), 100);
        Houses.write(house, 0, 2, 60);
        Due.is("none in a third one, without uses", house.agreement(0), 0);
        Houses.write(house, 0, 2, 0, 4);
        Due.is("two of two in all three", house.agreement(0), 100);
        Due.is("the other document", house.agreement(1), 100);
    }

    // "Both cut.", with as many CONCEPTS as there can be
    private static void agreementIsCut() {
        GlossaryCrown house = new GlossaryCrown();
        Houses.concepts(house, 12);
        for (int concept = 0; concept < 12; concept++) {
            Houses.admitted(house, concept, 0, concept);
            Houses.admitted(house, concept, 1, 19 - concept);
        }
        Houses.documents(house, 1);
        for (int concept = 0; concept < 12; concept++) {
            Houses.write(house, 0, 0, 4 * concept);
        }
        for (int concept = 0; concept < 12; concept++) {
            Houses.write(house, 0, 1, 4 * (19 - concept));
            Due.is("of 12 concepts " + (concept + 1), house.agreement(0), (concept + 1) * 100 / 12);
        }
        Due.is("all terms", house.many(2), 24);
    }

    // "of all CONCEPTS of USES": not of TERMS, and of each once
    private static void agreementCountsConcepts() {
        GlossaryCrown house = Houses.of(0, 0);
        Houses.admitted(house, 0, 0, 0);
        Houses.admitted(house, 0, 0, 1);
        Houses.admitted(house, 0, 2, 5);
        Houses.admitted(house, 1, 2, 6);
        Houses.documents(house, 1);
        Houses.write(house, 0, 0, 0, 4, 4);
        Houses.write(house, 0, 2, 20);
        Due.is("several terms and forms of one", house.agreement(0), 100);
        Houses.write(house, 0, 2, 24, 24, 24);
        Due.is("another one, several times", house.agreement(0), 50);
        house.join(0, 1);
        Due.is("joined", house.agreement(0), 100);
        house.split(0, 2, 0);
        Due.is("split", house.agreement(0), 50);
    }
}
