/**
 * Promises 10 and 11, sentence by sentence: what is too small, too large, empty, full, or refused.
 * Ahead of each test stands the sentence of the document that it is about.
 */
public final class SplitsBoundsTest {
    private static final Class<?> INDEX = Houses.INDEX;
    private static final Class<?> ARGUMENT = Houses.ARGUMENT;
    private static final Class<?> STATE = Houses.STATE;
    private static final int[] OUTSIDE = Houses.OUTSIDE;

    public static void main(String[] args) {
        testSplit();
        testJoin();
        Due.close("SplitsBoundsTest");
    }

    // ---- 10: split

    private static void testSplit() {
        splitConcept();
        splitTermsTooSmall();
        splitTermsOfOthers();
        splitTermsAll();
        splitOneOrAllButOne();
        splitDomain();
        splitRoom();
    }

    // "IndexOutOfBoundsException if there is no such CONCEPT", ahead of all others
    private static void splitConcept() {
        GlossaryCrown house = Houses.of(0);
        house.term(0, 0, 0);
        house.term(0, 0, 1);
        Due.fails("the next concept", house, INDEX, () -> house.split(1, 1, 0));
        Due.fails("the next concept, no terms", house, INDEX, () -> house.split(1, 0, 0));
        Due.fails("the next concept, domain 4", house, INDEX, () -> house.split(1, 1, 4));
        for (int concept : OUTSIDE) {
            Due.fails("concept " + concept, house, INDEX, () -> house.split(concept, 1, 0));
        }
        Houses.concepts(house, 11);
        Due.fails("concept 12, no room", house, INDEX, () -> house.split(12, 1, 0));
    }

    // "IllegalArgumentException if terms is less than 1"
    private static void splitTermsTooSmall() {
        GlossaryCrown house = Houses.of(0);
        house.term(0, 0, 0);
        house.term(0, 0, 1);
        for (int terms : new int[] {0, -1, -2, -3, Integer.MIN_VALUE, Integer.MIN_VALUE + 1}) {
            Due.fails("terms " + terms, house, ARGUMENT, () -> house.split(0, terms, 0));
        }
        Due.is("the smallest", house.split(0, 1, 0), 1);
    }

    // "IllegalArgumentException if terms .. has a TERM that is not of that CONCEPT"
    private static void splitTermsOfOthers() {
        GlossaryCrown house = Houses.of(0, 0);
        house.term(0, 0, 0);
        house.term(0, 0, 1);
        house.term(1, 0, 0);
        house.term(0, 0, 2);
        Due.fails("one of another alone", house, ARGUMENT, () -> house.split(0, 4, 0));
        Due.fails("one of another beside", house, ARGUMENT, () -> house.split(0, 5, 0));
        Due.fails("one of another beside all", house, ARGUMENT, () -> house.split(0, 15, 0));
        for (int bit = 4; bit < 31; bit++) {
            int terms = 1 | 1 << bit;
            Due.fails("TERM " + bit + ", which there is not", house, ARGUMENT, () -> house.split(0, terms, 0));
        }
        Due.fails("all that can be told", house, ARGUMENT, () -> house.split(0, Integer.MAX_VALUE, 0));
        Due.is("none of another", house.split(0, 9, 0), 2);
        Due.fails("one that was of it", house, ARGUMENT, () -> house.split(0, 1, 0));
    }

    // "IllegalArgumentException if terms .. has .. all that are"
    private static void splitTermsAll() {
        GlossaryCrown house = Houses.of(0, 0, 0);
        house.term(0, 0, 0);
        house.term(0, 2, 0);
        house.term(1, 0, 1);
        Due.fails("both", house, ARGUMENT, () -> house.split(0, 3, 0));
        Due.fails("the only one", house, ARGUMENT, () -> house.split(1, 4, 0));
        Due.fails("any, of one without terms", house, ARGUMENT, () -> house.split(2, 1, 0));
        house.join(0, 1);
        Due.fails("any, of an emptied one", house, ARGUMENT, () -> house.split(1, 4, 0));
        Due.fails("all three", house, ARGUMENT, () -> house.split(0, 7, 0));
        Due.is("two of three", house.split(0, 3, 0), 3);
    }

    // "some of its TERMS, but not all": one, and all but one, of as many as there can be
    private static void splitOneOrAllButOne() {
        GlossaryCrown house = Houses.of(0);
        for (int term = 0; term < 24; term++) {
            house.term(0, term / 12, term % 12);
        }
        Due.fails("all 24", house, ARGUMENT, () -> house.split(0, (1 << 24) - 1, 0));
        Due.is("the last alone", house.split(0, 1 << 23, 1), 1);
        Due.is("all but the first", house.split(0, (1 << 23) - 2, 2), 2);
        Due.is("terms of the old one", house.ofConcept(0, 1), 1);
        Due.is("terms of the first new one", house.ofConcept(1, 1), 1);
        Due.is("terms of the second new one", house.ofConcept(2, 1), 22);
        Due.is("the first stays", house.ofTerm(0, 0), 0);
        Due.is("the last goes", house.ofTerm(23, 0), 1);
    }

    // "IllegalArgumentException if .. domain is not 0 to 3"
    private static void splitDomain() {
        GlossaryCrown house = Houses.of(1);
        for (int stem = 0; stem < 3; stem++) {
            house.term(0, 0, stem);
        }
        Due.fails("domain 4", house, ARGUMENT, () -> house.split(0, 1, 4));
        for (int domain : OUTSIDE) {
            Due.fails("domain " + domain, house, ARGUMENT, () -> house.split(0, 1, domain));
        }
        Due.is("the smallest domain", house.split(0, 1, 0), 1);
        Due.is("the greatest domain", house.split(0, 2, 3), 2);
        Due.is("domain 0", house.ofConcept(1, 0), 0);
        Due.is("domain 3", house.ofConcept(2, 0), 3);
    }

    // "IllegalStateException if there are 12 CONCEPTS", after all others
    private static void splitRoom() {
        GlossaryCrown house = Houses.of(0);
        house.term(0, 0, 0);
        house.term(0, 0, 1);
        house.term(0, 0, 2);
        Houses.concepts(house, 10);
        Due.is("the 12th", house.split(0, 1, 0), 11);
        Due.fails("the 13th", house, STATE, () -> house.split(0, 2, 0));
        Due.fails("the 13th, no terms", house, ARGUMENT, () -> house.split(0, 0, 0));
        Due.fails("the 13th, one of another", house, ARGUMENT, () -> house.split(0, 1, 0));
        Due.fails("the 13th, all terms", house, ARGUMENT, () -> house.split(0, 6, 0));
        Due.fails("the 13th, domain 4", house, ARGUMENT, () -> house.split(0, 2, 4));
    }

    // ---- 11: join

    private static void testJoin() {
        joinConcepts();
        joinSame();
        joinCannot();
        joinPreferred();
        joinPreferredInEachLanguage();
        joinEmpty();
        joinFull();
    }

    // "IndexOutOfBoundsException if there is no such CONCEPT", ahead of all others
    private static void joinConcepts() {
        GlossaryCrown house = Houses.of(0, 0, 0);
        Due.fails("the next with the first", house, INDEX, () -> house.join(3, 0));
        Due.fails("the first with the next", house, INDEX, () -> house.join(0, 3));
        Due.fails("the next with itself", house, INDEX, () -> house.join(3, 3));
        Due.fails("-1 with itself", house, INDEX, () -> house.join(-1, -1));
        for (int concept : OUTSIDE) {
            Due.fails(concept + " with the first", house, INDEX, () -> house.join(concept, 0));
            Due.fails("the first with " + concept, house, INDEX, () -> house.join(0, concept));
        }
        Due.is("the last with the first", house.join(2, 0), 0);
    }

    // "IllegalArgumentException if they are the same", ahead of "if they cannot be JOINED"
    private static void joinSame() {
        GlossaryCrown house = Houses.of(0, 0);
        house.term(0, 0, 0);
        Due.fails("with terms", house, ARGUMENT, () -> house.join(0, 0));
        Due.fails("without terms", house, ARGUMENT, () -> house.join(1, 1));
    }

    // "They cannot be JOINED, if that would give two with the same STEM in one LANGUAGE.", whatever their states are
    private static void joinCannot() {
        GlossaryCrown house = Houses.of(0, 0, 0, 0, 0);
        house.term(0, 0, 0);
        house.term(1, 0, 0);
        Houses.admitted(house, 2, 0, 0);
        Houses.preferred(house, 3, 0, 0);
        house.ban(Houses.admitted(house, 4, 0, 0), 0);
        for (int one = 0; one < 5; one++) {
            for (int other = 0; other < 5; other++) {
                int greater = one;
                int smaller = other;
                if (one != other) {
                    Due.fails(one + " with " + other, house, STATE, () -> house.join(greater, smaller));
                }
            }
        }
        GlossaryCrown free = Houses.of(0, 0, 0);
        free.term(0, 0, 0);
        free.term(1, 1, 0);
        free.term(2, 0, 1);
        Due.is("the same stem in another language", free.join(0, 1), 2);
        Due.is("another stem in the language", free.join(2, 0), 3);
    }

    // "of two TERMS that are PREFERRED in one LANGUAGE then, the one with the greater number of both is ADMITTED"
    private static void joinPreferred() {
        GlossaryCrown house = Houses.of(0, 0, 0);
        int first = Houses.preferred(house, 1, 0, 0);
        int second = Houses.preferred(house, 0, 0, 1);
        int banned = Houses.preferred(house, 0, 1, 0);
        int alone = Houses.preferred(house, 1, 1, 1);
        int other = Houses.preferred(house, 2, 0, 0);
        house.ban(banned, 0);
        house.join(0, 1);
        Due.is("the smaller, though it comes from the greater concept", house.ofTerm(first, 3), 2);
        Due.is("the greater of both", house.ofTerm(second, 3), 1);
        Due.is("BANNED stays", house.ofTerm(banned, 3), 3);
        Due.is("so that the greater is alone", house.ofTerm(alone, 3), 2);
        Due.is("one of a third concept", house.ofTerm(other, 3), 2);
        Due.is("the one that is told", house.ofConcept(0, 2), first);
    }

    // "of two TERMS that are PREFERRED in one LANGUAGE then ..": in each LANGUAGE, alone and all at once
    private static void joinPreferredInEachLanguage() {
        for (int set = 1; set < 8; set++) {
            GlossaryCrown house = Houses.of(0, 0);
            for (int language = 0; language < 3; language++) {
                Houses.preferred(house, 0, language, 0);
                if ((set >> language & 1) != 0) {
                    Houses.preferred(house, 1, language, 1);
                } else {
                    Houses.admitted(house, 1, language, 1);
                }
            }
            Due.is("PREFERRED ahead of it", house.many(5), 3 + Integer.bitCount(set));
            Due.is("terms then", house.join(1, 0), 6);
            for (int language = 0; language < 3; language++) {
                String where = "languages " + set + ", language " + language;
                Due.is(where + ", the smaller", house.ofTerm(2 * language, 3), 2);
                Due.is(where + ", the greater", house.ofTerm(2 * language + 1, 3), 1);
                Due.is(where + ", told", house.ofConcept(0, 2 + language), 2 * language);
                Due.is(where + ", told of the emptied", house.ofConcept(1, 2 + language), -1);
            }
            Due.is("PREFERRED then", house.many(5), 3);
        }
    }

    // "Returns how many TERMS the one with the smaller number has then.": none, and with one without any
    private static void joinEmpty() {
        GlossaryCrown house = Houses.of(0, 1, 2);
        Due.is("both without terms", house.join(0, 1), 0);
        Due.is("the same again", house.join(1, 0), 0);
        house.term(2, 0, 0);
        Due.is("the smaller without terms", house.join(1, 2), 1);
        Due.is("the greater without terms", house.join(1, 2), 1);
        Due.is("with terms", house.many(1), 1);
        Due.is("ever", house.many(0), 3);
    }

    // "Returns how many TERMS the one with the smaller number has then.": all that there can be
    private static void joinFull() {
        GlossaryCrown house = Houses.full();
        for (int concept = 10; concept >= 0; concept--) {
            Due.is("join " + concept, house.join(11 - concept, 0), 24 - 2 * concept);
        }
        Due.is("all terms", house.ofConcept(0, 1), 24);
        Due.fails("no room by that", house, STATE, () -> house.concept(0));
    }
}
