/** What the document says of a TERM, a FORM, a CONCEPT or a TEXT holds for each one of them, the last ones too. */
public final class EachNumberTest {
    private static final Class<?> STATE = Houses.STATE;
    private static final int NONE = Houses.NONE;

    public static void main(String[] args) {
        formCanBe();
        formsOfTermOnly();
        useOfEachTerm();
        nearTerms();
        mostOfMany();
        banOfEachTerm();
        graceOfEachTerm();
        changedByEachPair();
        lastDays();
        Due.close("EachNumberTest");
    }

    // "FORM / 4 is its STEM", "A FORM CAN BE each TERM of its LANGUAGE with its STEM": of 80 FORMS, in each LANGUAGE
    private static void formCanBe() {
        for (int language = 0; language < 3; language++) {
            GlossaryCrown house = twentyStems(language);
            for (int form = 0; form < 80; form++) {
                String where = "language " + language + ", form " + form;
                house.write(0, language, 0, form);
                Due.is(where + ", use", house.use(0, language, 0), form / 4);
                Due.is(where + ", uses", house.ofText(0, language, 2), 1);
                house.write(0, (language + 1) % 3, 0, form);
                Due.is(where + ", in another language", house.use(0, (language + 1) % 3, 0), NONE);
            }
        }
    }

    // "the smallest FORM that would be a USE of it there", of each TERM
    private static void formsOfTermOnly() {
        for (int language = 0; language < 3; language++) {
            GlossaryCrown house = twentyStems(language);
            for (int term = 0; term < 20; term++) {
                Due.is("language " + language + ", formFor " + term, house.formFor(0, language, 0, term), 4 * term);
                Due.is("in another language", house.formFor(0, (language + 1) % 3, 0, term), NONE);
            }
        }
    }

    /** The TERM t has the STEM t, in that LANGUAGE; they are of two CONCEPTS. */
    private static GlossaryCrown twentyStems(int language) {
        GlossaryCrown house = Houses.of(0, 1);
        for (int stem = 0; stem < 20; stem++) {
            Houses.admitted(house, stem % 2, language, stem);
        }
        house.document();
        return house;
    }

    // "its USE: .. that one, if it is PLAIN": of each of 24 TERMS, in each DOCUMENT
    private static void useOfEachTerm() {
        GlossaryCrown house = Houses.full();
        for (int text = 0; text < 18; text++) {
            // 8 PLACES of each TEXT, so that 512 calls are enough.
            int first = text < 9 ? 0 : 4;
            for (int place = first; place < first + 8; place++) {
                Due.is("text " + text + ", place " + place, house.use(text / 3, text % 3, place),
                    8 * (text % 3) + place % 8);
            }
        }
    }

    // "the one for which the most PLAIN FORMS .. are TERMS whose CONCEPT has the same DOMAIN", whatever its number is
    private static void nearTerms() {
        for (int first = 0; first <= 20; first++) {
            GlossaryCrown house = withFillers(first);
            Due.is("the first", plainTerms(house), first);
            Due.is("the third", ambiguousTerms(house), first + 2);
            nearTermsIn(house, first + 2, first);
            GlossaryCrown turned = withFillers(first);
            Due.is("the first, turned", ambiguousTerms(turned), first);
            Due.is("the third, turned", plainTerms(turned), first + 2);
            nearTermsIn(turned, first, first + 2);
        }
    }

    private static int plainTerms(GlossaryCrown house) {
        int one = Houses.admitted(house, 0, 2, 18);
        Houses.admitted(house, 1, 2, 17);
        return one;
    }

    private static int ambiguousTerms(GlossaryCrown house) {
        int one = Houses.admitted(house, 0, 2, 19);
        Houses.admitted(house, 1, 2, 19);
        return one;
    }

    private static void nearTermsIn(GlossaryCrown house, int one, int nearOne) {
        int other = one + 1;
        int nearOther = nearOne + 1;
        String where = "terms " + one + " and " + nearOne;
        house.document();
        Houses.write(house, 0, 2, 79);
        Houses.usesAre(where + ", alone", house, 0, 2, one);
        Houses.write(house, 0, 2, 71);
        Houses.usesAre(where + ", near to the other", house, 0, 2, other, nearOther);
        Due.is(where + ", that CAN BE more", house.ofText(0, 2, 6), 1);
        Houses.write(house, 0, 2, 75);
        Houses.usesAre(where + ", near to both", house, 0, 2, one, nearOther, nearOne);
        house.write(0, 2, 1, 78);
        Houses.usesAre(where + ", two of one", house, 0, 2, one, one, nearOne);
        Due.is(where + ", as formFor says", house.formFor(0, 2, 1, one), 76);
        Due.is(where + ", not the other", house.formFor(0, 2, 1, other), NONE);
        house.write(0, 2, 2, 68);
        Houses.usesAre(where + ", near to the other alone", house, 0, 2, other, other, nearOther);
    }

    /** A house with two CONCEPTS, of the DOMAINS 2 and 3, and so many TERMS that are no USES in LANGUAGE 2. */
    private static GlossaryCrown withFillers(int count) {
        GlossaryCrown house = Houses.of(2, 3);
        for (int term = 0; term < count; term++) {
            house.term(term % 2, term / 2 % 2, 19 - term / 4);
        }
        return house;
    }

    // "otherwise, of those that it CAN BE": as many as there can be of one STEM, one for each CONCEPT
    private static void mostOfMany() {
        GlossaryCrown house = new GlossaryCrown();
        for (int concept = 0; concept < 12; concept++) {
            house.concept(concept / 3);
            Houses.admitted(house, concept, 1, 5);
        }
        for (int domain = 0; domain < 4; domain++) {
            Due.is("plain one", Houses.admitted(house, 3 * domain + 2, 1, 6 + domain), 12 + domain);
        }
        house.document();
        Houses.write(house, 0, 1, 20, 24);
        for (int domain = 0; domain < 4; domain++) {
            house.write(0, 1, 1, 4 * (6 + domain));
            Due.is("the smallest of domain " + domain, house.use(0, 1, 0), 3 * domain);
        }
    }

    // "how many TEXTS are REOPENED by that", of each TERM, and of no other's TEXTS
    private static void banOfEachTerm() {
        for (int term = 0; term < 24; term++) {
            GlossaryCrown house = houseWithTextsOf(term);
            Due.is("reopenedBy " + term, house.reopenedBy(term), 2);
            Due.is("reopenedBy of another", house.reopenedBy((term + 1) % 24), 2);
            Due.is("reopenedBy of one without uses", house.reopenedBy((term + 2) % 24), 0);
            Due.is("ban " + term, house.ban(term, 0), 2);
            Due.is("its text", house.ofText(0, term / 8, 1), 2);
            Due.is("the one beside it", house.ofText(0, (term / 8 + 1) % 3, 1), 2);
            Due.is("another's text", house.ofText(1, (term + 1) % 24 / 8, 1), 1);
            Due.is("uses that are BANNED", house.ofText(0, term / 8, 3), 1);
            int language = term / 8;
            Due.fails("approve with " + term, house, STATE, () -> house.approve(0, language));
            Due.is("allow " + term, house.allow(term), 0);
            Due.is("approve without the ban", house.approve(0, term / 8), 0);
        }
    }

    // "its GRACE is over from the DAY on that is GRACE DAYS behind that one", of each TERM
    private static void graceOfEachTerm() {
        for (int term = 0; term < 24; term++) {
            GlossaryCrown house = houseWithTextsOf(term);
            house.pass(3 + term);
            Due.is("ban " + term, house.ban(term, 2 + term), 0);
            Due.is("the DAY", house.ofTerm(term, 6), 3 + term);
            Due.is("reopenedIn, ahead", house.reopenedIn(1 + term), 0);
            Due.is("reopenedIn", house.reopenedIn(2 + term), 2);
            Due.is("pass, ahead", house.pass(1 + term), 0);
            Due.is("pass", house.pass(1), 2);
            Due.is("its text", house.ofText(0, term / 8, 1), 2);
            Due.is("another's text", house.ofText(1, (term + 1) % 24 / 8, 1), 1);
            Due.is("allow", house.allow(term), 2 + term);
        }
    }

    /**
     * 12 CONCEPTS of two TERMS each, t with the STEM t % 8 in the LANGUAGE t / 8; DOCUMENT 0 has two APPROVED TEXTS,
     * one of them with that TERM; DOCUMENT 1 has the same with the next TERM.
     */
    private static GlossaryCrown houseWithTextsOf(int term) {
        GlossaryCrown house = new GlossaryCrown();
        Houses.concepts(house, 12);
        for (int i = 0; i < 24; i++) {
            Houses.admitted(house, i % 12, i / 8, i % 8);
        }
        Houses.documents(house, 2);
        for (int document = 0; document < 2; document++) {
            int used = (term + document) % 24;
            Houses.write(house, document, used / 8, 4 * (used % 8));
            Houses.write(house, document, (used / 8 + 1) % 3, 79);
            house.approve(document, used / 8);
            house.approve(document, (used / 8 + 1) % 3);
        }
        return house;
    }

    // "how many USES in all TEXTS would be other TERMS, if they were JOINED": of each two CONCEPTS, either way round
    private static void changedByEachPair() {
        for (int greater = 1; greater < 12; greater++) {
            for (int smaller = 0; smaller < greater; smaller++) {
                changedByPair(smaller, greater, greater);
                changedByPair(smaller, greater, smaller);
            }
        }
    }

    /** The FORM 0 is of a third CONCEPT, but would be of the CONCEPT could, if the other of both had its DOMAIN. */
    private static void changedByPair(int smaller, int greater, int could) {
        GlossaryCrown house = new GlossaryCrown();
        for (int concept = 0; concept < 12; concept++) {
            house.concept(concept == smaller ? 1 : concept == greater ? 2 : 3);
        }
        int third = smaller > 0 ? 0 : greater > 1 ? 1 : 2;
        Houses.admitted(house, third, 0, 0);
        Houses.admitted(house, could, 0, 0);
        Houses.admitted(house, smaller + greater - could, 0, 1);
        house.document();
        Houses.write(house, 0, 0, 0, 4);
        String where = smaller + " and " + greater + ", " + could;
        Houses.usesAre(where, house, 0, 0, 0, 2);
        Due.is(where + ", changedBy", house.changedBy(smaller, greater), 1);
        Due.is(where + ", changedBy, turned", house.changedBy(greater, smaller), 1);
        Due.is(where + ", not one that it CAN BE too", house.changedBy(third, could), NONE);
        Houses.usesAre(where + ", asked", house, 0, 0, 0, 2);
        Due.is(where + ", join", house.join(smaller, greater), 2);
        Houses.usesAre(where + ", joined", house, 0, 0, 1, 2);
    }

    // "reopenedIn .. (also beyond 199)": what is not BANNED is not REOPENED on any DAY that can be asked for
    private static void lastDays() {
        GlossaryCrown house = Houses.full();
        Houses.approveAll(house);
        Houses.passTo(house, 199);
        for (int days = 1; days <= 40; days++) {
            Due.is("nothing BANNED, reopenedIn " + days, house.reopenedIn(days), 0);
        }
        GlossaryCrown one = houseWithTextsOf(23);
        Houses.passTo(one, 199);
        one.ban(23, 30);
        for (int days = 1; days <= 40; days++) {
            Due.is("the last TERM BANNED, reopenedIn " + days, one.reopenedIn(days), days < 30 ? 0 : 2);
        }
    }
}
