/** Promises 22 to 26: what would be. Nothing is changed by asking. */
public final class WouldBeTest {
    private static final Class<?> INDEX = Houses.INDEX;
    private static final Class<?> ARGUMENT = Houses.ARGUMENT;
    private static final int NONE = Houses.NONE;
    private static final int[] OUTSIDE = Houses.OUTSIDE;

    public static void main(String[] args) {
        reopenedBy();
        reopenedIn();
        reopenedInBeyondTheLastDay();
        changedBy();
        changedByMovesOnlyDomains();
        formFor();
        formForRefuses();
        digestOfNothing();
        digestOrder();
        Due.close("WouldBeTest");
    }

    private static void reopenedBy() {
        GlossaryCrown house = Houses.of(0, 1);
        int term = Houses.admitted(house, 0, 0, 0);
        int open = house.term(1, 0, 0);
        int other = Houses.preferred(house, 0, 1, 1);
        Houses.documents(house, 3);
        Houses.write(house, 0, 0, 0, 1);
        Houses.write(house, 0, 1, 60);
        Houses.write(house, 0, 2, 60);
        Houses.write(house, 1, 0, 0);
        Houses.write(house, 1, 1, 4);
        Houses.write(house, 2, 0, 60);
        house.approve(0, 0);
        house.approve(0, 1);
        house.approve(1, 1);
        house.approve(2, 0);
        Due.is("all APPROVED ones of a document with an APPROVED use", house.reopenedBy(term), 2);
        Due.is("a PREFERRED one", house.reopenedBy(other), 1);
        Due.is("a PROPOSED one cannot be", house.reopenedBy(open), 0);
        long before = house.digest();
        house.reopenedBy(term);
        Due.is("nothing is changed", house.digest() - before, 0);
        Due.fails("term 3", house, INDEX, () -> house.reopenedBy(3));
        for (int number : OUTSIDE) {
            Due.fails("term " + number, house, INDEX, () -> house.reopenedBy(number));
        }
        house.ban(term, 5);
        Due.is("a BANNED one cannot be, though it will reopen", house.reopenedBy(term), 0);
        Due.is("which comes", house.pass(5), 2);
    }

    private static void reopenedIn() {
        GlossaryCrown house = Houses.of(0);
        int one = Houses.admitted(house, 0, 0, 0);
        int two = Houses.admitted(house, 0, 1, 1);
        Houses.documents(house, 2);
        Houses.write(house, 0, 0, 0);
        Houses.write(house, 0, 1, 4);
        Houses.write(house, 1, 1, 4);
        Houses.write(house, 1, 2, 60);
        house.approve(0, 0);
        house.approve(0, 1);
        house.approve(1, 1);
        house.approve(1, 2);
        house.pass(3);
        house.ban(one, 4);
        house.pass(1);
        house.ban(two, 30);
        Due.is("in 2", house.reopenedIn(2), 0);
        Due.is("in 3 the first", house.reopenedIn(3), 2);
        Due.is("in 29 no more", house.reopenedIn(29), 2);
        Due.is("in 30 both, each text once", house.reopenedIn(30), 4);
        Due.is("in 40", house.reopenedIn(40), 4);
        Due.is("the day stays", house.many(12), 4);
        Due.fails("no days", house, ARGUMENT, () -> house.reopenedIn(0));
        Due.fails("41 days", house, ARGUMENT, () -> house.reopenedIn(41));
        for (int number : OUTSIDE) {
            Due.fails("days " + number, house, ARGUMENT, () -> house.reopenedIn(number));
        }
        house.allow(two);
        Due.is("let again", house.reopenedIn(40), 2);
    }

    private static void reopenedInBeyondTheLastDay() {
        GlossaryCrown house = Houses.of(0);
        int term = Houses.admitted(house, 0, 0, 0);
        Houses.documents(house, 1);
        Houses.write(house, 0, 0, 0);
        house.approve(0, 0);
        for (int i = 0; i < 4; i++) {
            house.pass(40);
        }
        house.pass(39);
        house.ban(term, 30);
        Due.is("before it is over", house.reopenedIn(29), 0);
        Due.is("on day 229", house.reopenedIn(30), 1);
    }

    private static void changedBy() {
        GlossaryCrown house = Houses.of(0, 1, 1, 2);
        int zero = Houses.admitted(house, 0, 0, 0);
        int one = Houses.admitted(house, 1, 0, 0);
        int near = Houses.admitted(house, 2, 0, 1);
        Houses.admitted(house, 3, 1, 0);
        Houses.documents(house, 2);
        Houses.write(house, 0, 0, 0, 4, 1);
        Houses.write(house, 1, 0, 4, 60, 60, 3, 2);
        Houses.usesAre("now", house, 0, 0, one, near, one);
        Houses.usesAre("now, in the other", house, 1, 0, near, NONE, NONE, one, zero);
        Due.is("near would be of domain 0", house.changedBy(2, 0), 3);
        Due.is("the other way round", house.changedBy(0, 2), 3);
        Due.is("nothing would change", house.changedBy(1, 2), 0);
        Due.is("nor with another language", house.changedBy(0, 3), 0);
        Due.is("they cannot be", house.changedBy(0, 1), NONE);
        Due.is("nothing is changed", house.use(0, 0, 0), one);
        Due.is("the concept stays", house.ofTerm(near, 0), 2);
        Due.fails("the same", house, ARGUMENT, () -> house.changedBy(1, 1));
        Due.fails("concept 4", house, INDEX, () -> house.changedBy(4, 0));
        Due.fails("with concept 4", house, INDEX, () -> house.changedBy(0, 4));
        Due.fails("concept 4 with itself", house, INDEX, () -> house.changedBy(4, 4));
        for (int number : OUTSIDE) {
            Due.fails("concept " + number, house, INDEX, () -> house.changedBy(number, 0));
            Due.fails("with concept " + number, house, INDEX, () -> house.changedBy(0, number));
        }
        house.join(2, 0);
        Houses.usesAre("then", house, 0, 0, zero, near, zero);
        Due.is("an emptied one", house.changedBy(2, 3), 0);
    }

    /** A JOIN gives the DOMAIN of the smaller number to the TERMS of the greater, to those that are asked for too. */
    private static void changedByMovesOnlyDomains() {
        GlossaryCrown house = Houses.of(0, 1, 1, 0);
        Houses.admitted(house, 2, 0, 0);
        Houses.admitted(house, 3, 0, 0);
        Houses.admitted(house, 1, 0, 1);
        Houses.documents(house, 1);
        Houses.write(house, 0, 0, 0, 4);
        Due.is("by what is near", house.use(0, 0, 0), 0);
        Due.is("both candidates of one domain then: the smallest", house.changedBy(3, 1), 0);
        Due.is("the candidate leaves the domain", house.changedBy(0, 2), 0);
        GlossaryCrown turned = Houses.of(0, 1, 1, 0);
        Houses.admitted(turned, 3, 0, 0);
        Houses.admitted(turned, 2, 0, 0);
        Houses.admitted(turned, 1, 0, 1);
        Houses.documents(turned, 1);
        Houses.write(turned, 0, 0, 0, 4);
        Due.is("the greater number is nearer", turned.use(0, 0, 0), 1);
        Due.is("then both are as near", turned.changedBy(1, 3), 1);
        Due.is("then none is near", turned.changedBy(2, 0), 1);
        Due.is("a move to the same domain", turned.changedBy(0, 3), 0);
    }

    private static void formFor() {
        GlossaryCrown house = Houses.of(0, 1);
        int zero = Houses.admitted(house, 0, 0, 5);
        int one = Houses.admitted(house, 1, 0, 5);
        int near = Houses.admitted(house, 1, 0, 19);
        int open = house.term(0, 0, 6);
        int away = Houses.admitted(house, 0, 1, 7);
        Houses.documents(house, 2);
        Due.is("in an empty text", house.formFor(0, 0, 0, zero), 20);
        Due.is("the smaller number is it", house.formFor(0, 0, 0, one), NONE);
        Due.is("a PLAIN one", house.formFor(0, 0, 0, near), 76);
        Due.is("a PROPOSED one", house.formFor(0, 0, 0, open), NONE);
        Due.is("one of another language", house.formFor(0, 0, 0, away), NONE);
        Due.is("in its language", house.formFor(0, 1, 0, away), 28);
        Houses.write(house, 0, 0, 77);
        Due.is("behind a near one", house.formFor(0, 0, 1, one), 20);
        Due.is("not the smaller number there", house.formFor(0, 0, 1, zero), NONE);
        Due.is("instead of it, that does not count then", house.formFor(0, 0, 0, zero), 20);
        Due.is("so not this", house.formFor(0, 0, 0, one), NONE);
        house.approve(0, 0);
        Due.is("whatever the state is", house.formFor(0, 0, 1, one), 20);
        Due.is("nothing is written", house.ofText(0, 0, 0), 1);
        house.ban(one, 0);
        Due.is("a BANNED one", house.formFor(0, 0, 1, one), 20);
        Houses.write(house, 1, 0, 1, 1, 1, 1, 1, 1, 1, 1, 1, 1, 1);
        Due.is("place 11", house.formFor(1, 0, 11, near), 76);
        Houses.write(house, 1, 0, 1);
        Due.is("place 11 of 12", house.formFor(1, 0, 11, near), 76);
        Due.fails("place 12", house, INDEX, () -> house.formFor(1, 0, 12, near));
    }

    private static void formForRefuses() {
        GlossaryCrown house = Houses.of(0);
        Houses.admitted(house, 0, 0, 0);
        Houses.documents(house, 1);
        Houses.write(house, 0, 0, 0);
        Due.fails("document 1", house, INDEX, () -> house.formFor(1, 0, 0, 0));
        Due.fails("language 3", house, INDEX, () -> house.formFor(0, 3, 0, 0));
        Due.fails("a gap", house, INDEX, () -> house.formFor(0, 0, 2, 0));
        Due.fails("term 1", house, INDEX, () -> house.formFor(0, 0, 0, 1));
        for (int number : OUTSIDE) {
            Due.fails("document " + number, house, INDEX, () -> house.formFor(number, 0, 0, 0));
            Due.fails("language " + number, house, INDEX, () -> house.formFor(0, number, 0, 0));
            Due.fails("place " + number, house, INDEX, () -> house.formFor(0, 0, number, 0));
            Due.fails("term " + number, house, INDEX, () -> house.formFor(0, 0, 0, number));
        }
    }

    private static void digestOfNothing() {
        long due = 58116;
        for (int i = 0; i < 14; i++) {
            due *= 31;
        }
        Due.is("digest of a new house", new GlossaryCrown().digest(), due);
        GlossaryCrown house = Houses.of(3);
        due = 58116L * 31 + 1;
        for (int i = 1; i < 13; i++) {
            due *= 31;
        }
        for (int number : new int[] {3, 0, NONE, NONE, NONE, 0, 0, 0}) {
            due = due * 31 + number;
        }
        Due.is("digest of one concept", house.digest(), due);
    }

    /** The digest is what the questions answer, in the order of the document. */
    private static void digestOrder() {
        GlossaryCrown house = Houses.of(0, 1);
        Houses.preferred(house, 0, 0, 0);
        int banned = Houses.admitted(house, 1, 0, 0);
        int later = Houses.admitted(house, 1, 1, 3);
        int last = Houses.admitted(house, 1, 2, 4);
        house.term(1, 2, 3);
        Houses.documents(house, 3);
        Houses.write(house, 0, 0, 0, 1, 60);
        Houses.write(house, 0, 1, 12);
        Houses.write(house, 1, 2, 12);
        Houses.write(house, 1, 1, 12);
        Houses.write(house, 2, 2, 16);
        Houses.write(house, 2, 1, 12);
        house.approve(0, 0);
        house.approve(1, 1);
        house.approve(1, 2);
        house.approve(2, 2);
        house.pass(2);
        house.ban(banned, 5);
        house.ban(later, 10);
        house.ban(last, 11);
        Due.is("agreement of the first", house.agreement(0), 0);
        Due.is("agreement of the last", house.agreement(2), 100);
        Due.is("what comes in 9 days", house.reopenedIn(9), 0);
        Due.is("in 10", house.reopenedIn(10), 2);
        Due.is("in 11", house.reopenedIn(11), 3);
        Due.is("digest", house.digest(), told(house));
        Due.is("and again", house.digest(), told(house));
    }

    private static long told(GlossaryCrown house) {
        long d = 58116;
        for (int what = 0; what < 13; what++) {
            d = d * 31 + house.many(what);
        }
        for (int term = 0; term < house.many(2); term++) {
            for (int what = 0; what < 8; what++) {
                d = d * 31 + house.ofTerm(term, what);
            }
            d = d * 31 + house.reopenedBy(term);
        }
        for (int concept = 0; concept < house.many(0); concept++) {
            for (int what = 0; what < 7; what++) {
                d = d * 31 + house.ofConcept(concept, what);
            }
        }
        for (int document = 0; document < house.many(7); document++) {
            for (int language = 0; language < 3; language++) {
                for (int what = 0; what < 7; what++) {
                    d = d * 31 + house.ofText(document, language, what);
                }
                for (int place = 0; place < house.ofText(document, language, 0); place++) {
                    d = d * 31 + house.use(document, language, place);
                }
            }
        }
        for (int document = 0; document < house.many(7); document++) {
            d = d * 31 + house.agreement(document);
        }
        return d * 31 + house.reopenedIn(10);
    }
}
