/** Promises 1 to 11: CONCEPTS and TERMS. */
public final class TermsTest {
    private static final Class<?> INDEX = Houses.INDEX;
    private static final Class<?> ARGUMENT = Houses.ARGUMENT;
    private static final Class<?> STATE = Houses.STATE;
    private static final int NONE = Houses.NONE;
    private static final int[] OUTSIDE = Houses.OUTSIDE;

    public static void main(String[] args) {
        newObject();
        concept();
        term();
        vote();
        voteReadsTextsAnew();
        prefer();
        ban();
        banAndTexts();
        allow();
        ofTerm();
        ofConcept();
        split();
        splitRefuses();
        splitReadsTextsAnew();
        join();
        joinRefuses();
        joinReadsTextsAnew();
        Due.close("TermsTest");
    }

    private static void newObject() {
        GlossaryCrown house = new GlossaryCrown();
        for (int what = 0; what <= 12; what++) {
            Due.is("new: many(" + what + ")", house.many(what), 0);
        }
        Due.isExactly("new: meanConsistency()", house.meanConsistency(), 0.0);
        GlossaryCrown other = Houses.of(3);
        Due.is("two houses are apart", house.many(0) + 10 * other.many(0), 10);
    }

    private static void concept() {
        GlossaryCrown house = new GlossaryCrown();
        for (int number = 0; number < 12; number++) {
            int domain = number % 4;
            Due.is("concept " + number, house.concept(domain), number);
            Due.is("its domain", house.ofConcept(number, 0), domain);
            Due.is("how many", house.many(0), number + 1);
        }
        Due.fails("a 13th concept", house, STATE, () -> house.concept(0));
        Due.fails("a 13th of domain 4", house, ARGUMENT, () -> house.concept(4));
        GlossaryCrown fresh = new GlossaryCrown();
        Due.fails("domain 4", fresh, ARGUMENT, () -> fresh.concept(4));
        for (int domain : OUTSIDE) {
            Due.fails("domain " + domain, fresh, ARGUMENT, () -> fresh.concept(domain));
        }
    }

    private static void term() {
        GlossaryCrown house = Houses.of(0, 1);
        Due.is("term 0", house.term(0, 0, 19), 0);
        Due.is("the same stem in another language", house.term(0, 2, 19), 1);
        Due.is("the same stem in another concept", house.term(1, 0, 19), 2);
        Due.is("another stem", house.term(0, 0, 0), 3);
        Due.is("state of a new one", house.ofTerm(3, 3), 0);
        Due.fails("the same again", house, STATE, () -> house.term(0, 0, 19));
        Due.fails("concept 2", house, INDEX, () -> house.term(2, 0, 0));
        Due.fails("language 3", house, INDEX, () -> house.term(0, 3, 0));
        Due.fails("stem 20", house, ARGUMENT, () -> house.term(0, 0, 20));
        Due.fails("language 3 with stem 20", house, INDEX, () -> house.term(0, 3, 20));
        Due.fails("concept 2 with stem 20", house, INDEX, () -> house.term(2, 0, 20));
        for (int number : OUTSIDE) {
            Due.fails("concept " + number, house, INDEX, () -> house.term(number, 0, 0));
            Due.fails("language " + number, house, INDEX, () -> house.term(0, number, 0));
            Due.fails("stem " + number, house, ARGUMENT, () -> house.term(0, 0, number));
        }
        GlossaryCrown empty = new GlossaryCrown();
        Due.fails("no concept at all", empty, INDEX, () -> empty.term(0, 0, 0));
        for (int stem = 0; stem < 20; stem++) {
            Due.is("term " + (stem + 4), house.term(1, 1, stem), stem + 4);
        }
        Due.fails("a 25th term", house, STATE, () -> house.term(1, 2, 0));
        Due.fails("a 25th term of stem 20", house, ARGUMENT, () -> house.term(1, 2, 20));
        Due.fails("a 25th term of language 3", house, INDEX, () -> house.term(1, 3, 0));
    }

    private static void vote() {
        GlossaryCrown house = Houses.of(0);
        int term = house.term(0, 0, 0);
        Due.is("first for", house.vote(term, 4, true), 0);
        Due.is("first against", house.vote(term, 0, false), 0);
        Due.fails("4 again", house, STATE, () -> house.vote(term, 4, true));
        Due.fails("4 again, against", house, STATE, () -> house.vote(term, 4, false));
        Due.fails("0 again, for", house, STATE, () -> house.vote(term, 0, true));
        Due.is("second against", house.vote(term, 1, false), 0);
        Due.is("second for", house.vote(term, 3, true), 0);
        Due.is("votes for", house.ofTerm(term, 4), 2);
        Due.is("votes against", house.ofTerm(term, 5), 2);
        Due.is("third against", house.vote(term, 2, false), 0);
        Due.is("votes for are gone", house.ofTerm(term, 4), 0);
        Due.is("votes against are gone", house.ofTerm(term, 5), 0);
        Due.is("anew 4", house.vote(term, 4, false), 0);
        Due.is("anew 0", house.vote(term, 0, false), 0);
        Due.is("anew 1", house.vote(term, 1, true), 0);
        Due.is("anew 2", house.vote(term, 2, true), 0);
        Due.is("anew 3", house.vote(term, 3, true), 1);
        Due.is("state", house.ofTerm(term, 3), 1);
        Due.is("votes for stay", house.ofTerm(term, 4), 3);
        Due.is("votes against stay", house.ofTerm(term, 5), 2);
        voteRefuses(house);
    }

    private static void voteRefuses(GlossaryCrown house) {
        int open = house.term(0, 1, 0);
        Due.fails("voter 5", house, INDEX, () -> house.vote(open, 5, true));
        for (int number : OUTSIDE) {
            Due.fails("voter " + number, house, INDEX, () -> house.vote(open, number, true));
            Due.fails("term " + number, house, INDEX, () -> house.vote(number, 0, true));
        }
        Due.fails("term 2", house, INDEX, () -> house.vote(2, 0, true));
        int decided = Houses.admitted(house, 0, 2, 0);
        Due.fails("ADMITTED", house, STATE, () -> house.vote(decided, 4, true));
        Due.fails("ADMITTED, voter 5", house, INDEX, () -> house.vote(decided, 5, true));
        house.prefer(decided);
        Due.fails("PREFERRED", house, STATE, () -> house.vote(decided, 4, true));
        house.ban(decided, 0);
        Due.fails("BANNED", house, STATE, () -> house.vote(decided, 4, true));
        Due.is("voters of another term are free", house.vote(open, 0, true), 0);
    }

    /** A TERM that comes to be ADMITTED can make a PLAIN FORM one of several, and that brings in a BANNED TERM. */
    private static void voteReadsTextsAnew() {
        GlossaryCrown house = Houses.of(0, 1);
        int near = Houses.admitted(house, 1, 0, 0);
        int banned = house.term(1, 0, 1);
        int plain = Houses.admitted(house, 0, 0, 1);
        Houses.documents(house, 1);
        Houses.write(house, 0, 0, 1, 4, 40);
        Houses.usesAre("before", house, 0, 0, near, plain, NONE);
        Houses.admit(house, banned);
        Houses.usesAre("the new one is nearer", house, 0, 0, near, banned, NONE);
        GlossaryCrown approved = Houses.of(0, 1, 1);
        int spoiler = Houses.admitted(approved, 0, 0, 2);
        int bad = Houses.admitted(approved, 1, 0, 1);
        int good = Houses.admitted(approved, 0, 0, 1);
        int late = approved.term(2, 0, 2);
        approved.ban(bad, 0);
        Houses.documents(approved, 1);
        Houses.write(approved, 0, 0, 4, 8, 4);
        Houses.usesAre("held up", approved, 0, 0, good, spoiler, good);
        Due.is("approved", approved.approve(0, 0), 0);
        approved.vote(late, 0, true);
        approved.vote(late, 1, true);
        Due.is("still APPROVED", approved.ofText(0, 0, 1), 1);
        Due.is("the vote answers the state of the TERM", approved.vote(late, 2, true), 1);
        Houses.usesAre("no plain form any more", approved, 0, 0, bad, spoiler, bad);
        Due.is("REOPENED by the vote", approved.ofText(0, 0, 1), 2);
    }

    private static void prefer() {
        GlossaryCrown house = Houses.of(0, 0);
        int one = Houses.admitted(house, 0, 0, 0);
        int two = Houses.admitted(house, 0, 0, 1);
        int otherLanguage = Houses.admitted(house, 0, 1, 0);
        int otherConcept = Houses.admitted(house, 1, 0, 0);
        int open = house.term(0, 0, 5);
        Due.is("first", house.prefer(two), NONE);
        Due.is("other language", house.prefer(otherLanguage), NONE);
        Due.is("other concept", house.prefer(otherConcept), NONE);
        Due.is("instead of it", house.prefer(one), two);
        Due.is("state of the new one", house.ofTerm(one, 3), 2);
        Due.is("state of the former one", house.ofTerm(two, 3), 1);
        Due.is("the other language stays", house.ofTerm(otherLanguage, 3), 2);
        Due.is("the other concept stays", house.ofTerm(otherConcept, 3), 2);
        Due.fails("PREFERRED already", house, STATE, () -> house.prefer(one));
        Due.fails("PROPOSED", house, STATE, () -> house.prefer(open));
        house.ban(two, 3);
        Due.fails("BANNED", house, STATE, () -> house.prefer(two));
        Due.fails("term 5", house, INDEX, () -> house.prefer(5));
        for (int number : OUTSIDE) {
            Due.fails("term " + number, house, INDEX, () -> house.prefer(number));
        }
        house.ban(one, 0);
        house.allow(two);
        Due.is("a BANNED one was not PREFERRED", house.prefer(two), NONE);
    }

    private static void ban() {
        GlossaryCrown house = Houses.of(0);
        int admitted = Houses.admitted(house, 0, 0, 0);
        int preferred = Houses.preferred(house, 0, 0, 1);
        int open = house.term(0, 0, 2);
        Due.fails("PROPOSED", house, STATE, () -> house.ban(open, 0));
        Due.fails("grace 31", house, ARGUMENT, () -> house.ban(admitted, 31));
        Due.fails("grace -1", house, ARGUMENT, () -> house.ban(admitted, -1));
        Due.fails("grace 31 of a PROPOSED one", house, ARGUMENT, () -> house.ban(open, 31));
        Due.fails("grace 31 of term 3", house, INDEX, () -> house.ban(3, 31));
        for (int number : OUTSIDE) {
            Due.fails("term " + number, house, INDEX, () -> house.ban(number, 0));
            Due.fails("grace " + number, house, ARGUMENT, () -> house.ban(admitted, number));
        }
        house.pass(7);
        Due.is("grace 30", house.ban(admitted, 30), 0);
        Due.is("its state", house.ofTerm(admitted, 3), 3);
        Due.is("from the day on", house.ofTerm(admitted, 6), 7);
        Due.is("a PREFERRED one", house.ban(preferred, 0), 0);
        Due.is("is BANNED then", house.ofTerm(preferred, 3), 3);
        Due.is("and none is PREFERRED", house.ofConcept(0, 2), NONE);
        Due.fails("BANNED already", house, STATE, () -> house.ban(admitted, 0));
    }

    private static void banAndTexts() {
        GlossaryCrown house = Houses.of(0);
        int zero = Houses.admitted(house, 0, 0, 0);
        int one = Houses.admitted(house, 0, 1, 1);
        Houses.documents(house, 3);
        Houses.write(house, 0, 0, 0);
        Houses.write(house, 0, 1, 4);
        Houses.write(house, 0, 2, 4);
        Houses.write(house, 1, 0, 0);
        Houses.write(house, 1, 1, 4);
        Houses.write(house, 2, 0, 0);
        Houses.write(house, 2, 1, 4);
        house.approve(0, 0);
        house.approve(0, 2);
        house.approve(1, 0);
        house.approve(1, 1);
        house.approve(2, 1);
        Due.is("with grace none at once", house.ban(zero, 2), 0);
        Due.is("APPROVED in the grace", house.ofText(0, 0, 1), 1);
        Due.is("one day", house.pass(1), 0);
        Due.is("let again", house.allow(zero), 1);
        Due.is("long enough", house.pass(5), 0);
        Due.is("at once all APPROVED ones of its documents", house.ban(zero, 0), 4);
        Due.is("a text that does not use it", house.ofText(0, 2, 1), 2);
        Due.is("a DRAFT stays one", house.ofText(0, 1, 1), 0);
        Due.is("an APPROVED one beside a DRAFT that uses it", house.ofText(2, 1, 1), 1);
        Due.is("another term", house.ban(one, 0), 1);
        Due.is("no more of them", house.pass(40), 0);
    }

    private static void allow() {
        GlossaryCrown house = Houses.of(0);
        int term = Houses.preferred(house, 0, 0, 0);
        int open = house.term(0, 0, 1);
        Due.fails("PREFERRED", house, STATE, () -> house.allow(term));
        Due.fails("PROPOSED", house, STATE, () -> house.allow(open));
        house.pass(2);
        house.ban(term, 30);
        Due.is("on the same day", house.allow(term), 0);
        Due.is("then it is ADMITTED", house.ofTerm(term, 3), 1);
        Due.is("not BANNED from any day", house.ofTerm(term, 6), NONE);
        Due.fails("ADMITTED", house, STATE, () -> house.allow(term));
        house.ban(term, 3);
        house.pass(40);
        house.pass(4);
        Due.is("44 days", house.allow(term), 44);
        Due.fails("term 2", house, INDEX, () -> house.allow(2));
        for (int number : OUTSIDE) {
            Due.fails("term " + number, house, INDEX, () -> house.allow(number));
        }
    }

    private static void ofTerm() {
        GlossaryCrown house = Houses.of(0, 1);
        house.term(0, 0, 0);
        int term = house.term(1, 2, 17);
        house.vote(term, 0, true);
        house.vote(term, 1, false);
        house.vote(term, 2, true);
        int[] due = {1, 2, 17, 0, 2, 1, NONE, 0};
        for (int what = 0; what <= 7; what++) {
            Due.is("ofTerm " + what, house.ofTerm(term, what), due[what]);
        }
        Houses.documents(house, 2);
        Houses.write(house, 0, 2, 68, 0, 71);
        Houses.write(house, 0, 1, 68);
        Houses.write(house, 1, 2, 69);
        Due.is("a PROPOSED one has no uses", house.ofTerm(term, 7), 0);
        house.vote(term, 3, true);
        Due.is("uses in two texts", house.ofTerm(term, 7), 3);
        Due.is("no day 0", house.ofTerm(term, 6), NONE);
        house.ban(term, 1);
        Due.is("from day 0", house.ofTerm(term, 6), 0);
        Due.is("uses of a BANNED one", house.ofTerm(term, 7), 3);
        Due.fails("what 8", house, ARGUMENT, () -> house.ofTerm(term, 8));
        Due.fails("term 2, what 8", house, INDEX, () -> house.ofTerm(2, 8));
        for (int number : OUTSIDE) {
            Due.fails("what " + number, house, ARGUMENT, () -> house.ofTerm(term, number));
            Due.fails("term " + number, house, INDEX, () -> house.ofTerm(number, 0));
        }
    }

    private static void ofConcept() {
        GlossaryCrown house = Houses.of(3, 2);
        int one = Houses.admitted(house, 1, 0, 0);
        int two = Houses.preferred(house, 1, 2, 1);
        int three = Houses.preferred(house, 1, 0, 2);
        Houses.preferred(house, 0, 0, 3);
        house.term(1, 1, 1);
        Houses.documents(house, 3);
        Houses.write(house, 0, 0, 0, 8, 12);
        Houses.write(house, 0, 2, 4);
        Houses.write(house, 2, 0, 2, 3);
        Houses.write(house, 1, 0, 12, 13);
        int[] due = {2, 4, three, NONE, two, 5, 2};
        for (int what = 0; what <= 6; what++) {
            Due.is("ofConcept " + what, house.ofConcept(1, what), due[what]);
        }
        Due.is("documents of the other", house.ofConcept(0, 6), 2);
        Due.is("uses of the other", house.ofConcept(0, 5), 3);
        Due.is("use of the first", house.use(2, 0, 1), one);
        Due.fails("what 7", house, ARGUMENT, () -> house.ofConcept(0, 7));
        Due.fails("concept 2, what 7", house, INDEX, () -> house.ofConcept(2, 7));
        for (int number : OUTSIDE) {
            Due.fails("what " + number, house, ARGUMENT, () -> house.ofConcept(0, number));
            Due.fails("concept " + number, house, INDEX, () -> house.ofConcept(number, 0));
        }
    }

    private static void split() {
        GlossaryCrown house = Houses.of(0, 1);
        int one = Houses.preferred(house, 0, 0, 0);
        int two = Houses.admitted(house, 0, 0, 1);
        int other = house.term(1, 0, 0);
        int three = Houses.preferred(house, 0, 1, 0);
        Due.is("the new one", house.split(0, 1 << one | 1 << three, 3), 2);
        Due.is("its domain", house.ofConcept(2, 0), 3);
        Due.is("its terms", house.ofConcept(2, 1), 2);
        Due.is("one moved", house.ofTerm(one, 0), 2);
        Due.is("two stayed", house.ofTerm(two, 0), 0);
        Due.is("three moved", house.ofTerm(three, 0), 2);
        Due.is("the other stayed", house.ofTerm(other, 0), 1);
        Due.is("states go along", house.ofConcept(2, 2), one);
        Due.is("in each language", house.ofConcept(2, 3), three);
        Due.is("none is PREFERRED in the old one", house.ofConcept(0, 2), NONE);
        Due.is("the old domain", house.ofConcept(0, 0), 0);
        Due.is("its stem is free in the old one", house.term(0, 0, 0), 4);
        GlossaryCrown full = Houses.of(0);
        for (int i = 0; i < 24; i++) {
            full.term(0, i / 8, i % 8);
        }
        Due.is("all but the first", full.split(0, (1 << 24) - 2, 0), 1);
        Due.is("all but the last", full.split(1, (1 << 23) - 2, 0), 2);
        Due.is("the last stays", full.ofTerm(23, 0), 1);
    }

    private static void splitRefuses() {
        GlossaryCrown house = Houses.of(0, 0, 0);
        house.term(0, 0, 0);
        house.term(0, 0, 1);
        house.term(1, 0, 0);
        Due.fails("concept 3", house, INDEX, () -> house.split(3, 1, 0));
        Due.fails("concept 3, no terms, domain 4", house, INDEX, () -> house.split(3, 0, 4));
        Due.fails("no terms", house, ARGUMENT, () -> house.split(0, 0, 0));
        Due.fails("terms -1", house, ARGUMENT, () -> house.split(0, -1, 0));
        Due.fails("the lowest number", house, ARGUMENT, () -> house.split(0, Integer.MIN_VALUE + 1, 0));
        Due.fails("all terms", house, ARGUMENT, () -> house.split(0, 3, 0));
        Due.fails("the only term", house, ARGUMENT, () -> house.split(1, 4, 0));
        Due.fails("one of another", house, ARGUMENT, () -> house.split(0, 5, 0));
        Due.fails("only one of another", house, ARGUMENT, () -> house.split(0, 4, 0));
        Due.fails("one that there is not", house, ARGUMENT, () -> house.split(0, 9, 0));
        Due.fails("number 24", house, ARGUMENT, () -> house.split(0, 1 | 1 << 24, 0));
        Due.fails("number 30", house, ARGUMENT, () -> house.split(0, 1 | 1 << 30, 0));
        Due.fails("a concept without terms", house, ARGUMENT, () -> house.split(2, 1, 0));
        Due.fails("domain 4", house, ARGUMENT, () -> house.split(0, 1, 4));
        for (int number : OUTSIDE) {
            Due.fails("concept " + number, house, INDEX, () -> house.split(number, 1, 0));
            Due.fails("domain " + number, house, ARGUMENT, () -> house.split(0, 1, number));
        }
        while (house.many(0) < 12) {
            house.concept(0);
        }
        Due.fails("12 concepts", house, STATE, () -> house.split(0, 1, 0));
        Due.fails("12 concepts, all terms", house, ARGUMENT, () -> house.split(0, 3, 0));
        Due.fails("12 concepts, domain 4", house, ARGUMENT, () -> house.split(0, 1, 4));
        Due.fails("12 concepts, concept 12", house, INDEX, () -> house.split(12, 1, 0));
    }

    private static void splitReadsTextsAnew() {
        GlossaryCrown house = Houses.of(0, 1);
        int good = Houses.admitted(house, 0, 0, 0);
        int bad = Houses.admitted(house, 1, 0, 0);
        int near = Houses.admitted(house, 0, 0, 1);
        Houses.documents(house, 1);
        Houses.write(house, 0, 0, 0, 4);
        house.ban(bad, 0);
        house.approve(0, 0);
        Due.is("the new domain is that of the BANNED one", house.split(0, 1 << near, 1), 2);
        Houses.usesAre("the use follows the domain", house, 0, 0, bad, near);
        Due.is("REOPENED by the split", house.ofText(0, 0, 1), 2);
        Due.is("the smaller number was it before", good, 0);
    }

    private static void join() {
        GlossaryCrown house = Houses.of(0, 1, 2);
        int zero = Houses.preferred(house, 2, 0, 0);
        int one = Houses.preferred(house, 1, 0, 1);
        int two = Houses.preferred(house, 1, 1, 0);
        int three = Houses.preferred(house, 2, 1, 1);
        int four = Houses.preferred(house, 2, 2, 1);
        Due.is("terms then", house.join(2, 1), 5);
        Due.is("all are of the smaller number", house.ofConcept(1, 1), 5);
        Due.is("none of the greater", house.ofConcept(2, 1), 0);
        Due.is("but it is there still", house.many(0), 3);
        Due.is("of those with terms there are", house.many(1), 1);
        Due.is("domain of the smaller number", house.ofConcept(1, 0), 1);
        Due.is("domain of the greater number", house.ofConcept(2, 0), 2);
        Due.is("the smaller term stays PREFERRED", house.ofTerm(zero, 3), 2);
        Due.is("the greater is ADMITTED", house.ofTerm(one, 3), 1);
        Due.is("of two in language 1 the smaller", house.ofTerm(two, 3), 2);
        Due.is("and the greater", house.ofTerm(three, 3), 1);
        Due.is("the only one of language 2", house.ofTerm(four, 3), 2);
        Due.is("into one without terms", house.join(0, 1), 5);
        Due.is("they moved", house.ofTerm(three, 0), 0);
        Due.is("with one without terms", house.join(0, 2), 5);
        Due.is("the emptied one can have terms again", house.term(2, 0, 0), 5);
    }

    private static void joinRefuses() {
        GlossaryCrown house = Houses.of(0, 0, 0);
        house.term(0, 0, 4);
        Houses.admitted(house, 1, 0, 4);
        Houses.admitted(house, 2, 1, 4);
        Due.fails("the same stem in a language", house, STATE, () -> house.join(0, 1));
        Due.fails("the other way round", house, STATE, () -> house.join(1, 0));
        Due.fails("the same concept", house, ARGUMENT, () -> house.join(1, 1));
        Due.fails("concept 3", house, INDEX, () -> house.join(3, 1));
        Due.fails("with concept 3", house, INDEX, () -> house.join(1, 3));
        Due.fails("concept 3 with itself", house, INDEX, () -> house.join(3, 3));
        for (int number : OUTSIDE) {
            Due.fails("concept " + number, house, INDEX, () -> house.join(number, 0));
            Due.fails("with concept " + number, house, INDEX, () -> house.join(0, number));
        }
        Due.is("the same stem in another language", house.join(2, 0), 2);
    }

    private static void joinReadsTextsAnew() {
        GlossaryCrown house = Houses.of(1, 0, 2);
        int good = Houses.admitted(house, 1, 0, 0);
        int bad = Houses.admitted(house, 0, 0, 0);
        int near = Houses.admitted(house, 2, 0, 1);
        Houses.documents(house, 1);
        Houses.write(house, 0, 0, 0, 4);
        house.ban(bad, 0);
        house.approve(0, 0);
        Houses.usesAre("before", house, 0, 0, good, near);
        Due.is("near is of the domain of bad then", house.join(2, 0), 2);
        Houses.usesAre("the use follows", house, 0, 0, bad, near);
        Due.is("REOPENED by the join", house.ofText(0, 0, 1), 2);
    }
}
