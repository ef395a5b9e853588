/** Promises 12 to 21: DOCUMENTS, their TEXTS, and the DAY. */
public final class DocumentsTest {
    private static final Class<?> INDEX = Houses.INDEX;
    private static final Class<?> ARGUMENT = Houses.ARGUMENT;
    private static final Class<?> STATE = Houses.STATE;
    private static final int NONE = Houses.NONE;
    private static final int[] OUTSIDE = Houses.OUTSIDE;

    public static void main(String[] args) {
        document();
        write();
        writeRefuses();
        writeDrafts();
        cut();
        approve();
        approveAgain();
        use();
        useReach();
        useCountsPlainFormsOnly();
        useRefuses();
        ofText();
        agreement();
        agreementCutAndEmpty();
        pass();
        passAndTexts();
        many();
        meanConsistency();
        Due.close("DocumentsTest");
    }

    private static void document() {
        GlossaryCrown house = new GlossaryCrown();
        for (int number = 0; number < 6; number++) {
            Due.is("document " + number, house.document(), number);
            Due.is("how many", house.many(7), number + 1);
            Due.is("its texts are empty", house.ofText(number, 2, 0), 0);
            Due.is("and DRAFTS", house.ofText(number, 2, 1), 0);
        }
        Due.fails("a 7th", house, STATE, () -> house.document());
    }

    private static void write() {
        GlossaryCrown house = new GlossaryCrown();
        Houses.documents(house, 6);
        for (int place = 0; place < 12; place++) {
            Due.is("place " + place, house.write(5, 2, place, 79 - place), place + 1);
        }
        Due.is("instead of the first", house.write(5, 2, 0, 3), 12);
        Due.is("instead of the last", house.write(5, 2, 11, 4), 12);
        Due.fails("place 12", house, INDEX, () -> house.write(5, 2, 12, 0));
        Due.is("the last", house.cut(5, 2), 4);
        Due.is("the one ahead", house.cut(5, 2), 69);
        for (int i = 0; i < 9; i++) {
            house.cut(5, 2);
        }
        Due.is("the first", house.cut(5, 2), 3);
        Due.is("another text", house.ofText(5, 1, 0), 0);
        Due.is("another document", house.ofText(4, 2, 0), 0);
    }

    private static void writeRefuses() {
        GlossaryCrown house = new GlossaryCrown();
        Houses.documents(house, 1);
        Houses.write(house, 0, 0, 7);
        Due.fails("document 1", house, INDEX, () -> house.write(1, 0, 0, 0));
        Due.fails("language 3", house, INDEX, () -> house.write(0, 3, 0, 0));
        Due.fails("a gap", house, INDEX, () -> house.write(0, 0, 2, 0));
        Due.fails("a gap in an empty text", house, INDEX, () -> house.write(0, 1, 1, 0));
        Due.fails("form 80", house, ARGUMENT, () -> house.write(0, 0, 1, 80));
        Due.fails("a gap with form 80", house, INDEX, () -> house.write(0, 0, 2, 80));
        for (int number : OUTSIDE) {
            Due.fails("document " + number, house, INDEX, () -> house.write(number, 0, 0, 0));
            Due.fails("language " + number, house, INDEX, () -> house.write(0, number, 0, 0));
            Due.fails("place " + number, house, INDEX, () -> house.write(0, 0, number, 0));
            Due.fails("form " + number, house, ARGUMENT, () -> house.write(0, 0, 0, number));
        }
        house.approve(0, 0);
        Due.fails("APPROVED", house, STATE, () -> house.write(0, 0, 0, 0));
        Due.fails("APPROVED, the next place", house, STATE, () -> house.write(0, 0, 1, 0));
        Due.fails("APPROVED, form 80", house, ARGUMENT, () -> house.write(0, 0, 0, 80));
        Due.fails("APPROVED, a gap", house, INDEX, () -> house.write(0, 0, 2, 0));
        Due.is("another text of it is free", house.write(0, 1, 0, 0), 1);
    }

    /** A TEXT that is REOPENED is a DRAFT when it is written, or cut. */
    private static void writeDrafts() {
        GlossaryCrown house = Houses.of(0);
        int term = Houses.admitted(house, 0, 0, 0);
        Houses.documents(house, 2);
        Houses.write(house, 0, 0, 0, 4);
        Houses.write(house, 1, 0, 0, 4);
        house.approve(0, 0);
        house.approve(1, 0);
        Due.is("both", house.ban(term, 0), 2);
        Due.is("REOPENED", house.ofText(0, 0, 1), 2);
        house.write(0, 0, 0, 8);
        Due.is("written", house.ofText(0, 0, 1), 0);
        house.cut(1, 0);
        Due.is("cut", house.ofText(1, 0, 1), 0);
    }

    private static void cut() {
        GlossaryCrown house = new GlossaryCrown();
        Houses.documents(house, 1);
        Houses.write(house, 0, 1, 79, 0);
        Due.is("last", house.cut(0, 1), 0);
        Due.is("left", house.ofText(0, 1, 0), 1);
        Due.is("first", house.cut(0, 1), 79);
        Due.fails("none left", house, STATE, () -> house.cut(0, 1));
        Due.fails("none ever", house, STATE, () -> house.cut(0, 0));
        Due.fails("document 1", house, INDEX, () -> house.cut(1, 0));
        Due.fails("language 3", house, INDEX, () -> house.cut(0, 3));
        for (int number : OUTSIDE) {
            Due.fails("document " + number, house, INDEX, () -> house.cut(number, 0));
            Due.fails("language " + number, house, INDEX, () -> house.cut(0, number));
        }
        Houses.write(house, 0, 1, 5);
        house.approve(0, 1);
        Due.fails("APPROVED", house, STATE, () -> house.cut(0, 1));
    }

    private static void approve() {
        GlossaryCrown house = Houses.of(0, 1);
        Houses.preferred(house, 0, 0, 0);
        int banned = Houses.admitted(house, 0, 0, 1);
        Houses.admitted(house, 1, 0, 2);
        Houses.documents(house, 1);
        Due.fails("no form", house, STATE, () -> house.approve(0, 0));
        Due.fails("document 1", house, INDEX, () -> house.approve(1, 0));
        Due.fails("language 3", house, INDEX, () -> house.approve(0, 3));
        for (int number : OUTSIDE) {
            Due.fails("document " + number, house, INDEX, () -> house.approve(number, 0));
            Due.fails("language " + number, house, INDEX, () -> house.approve(0, number));
        }
        Houses.write(house, 0, 0, 0, 8, 40, 4);
        house.ban(banned, 30);
        Due.fails("a BANNED use, in its grace", house, STATE, () -> house.approve(0, 0));
        house.allow(banned);
        Due.is("one of three uses, cut", house.approve(0, 0), 33);
        Due.is("state", house.ofText(0, 0, 1), 1);
        Due.fails("APPROVED already", house, STATE, () -> house.approve(0, 0));
        Houses.write(house, 0, 1, 40);
        Due.is("without uses", house.approve(0, 1), 100);
        Houses.preferred(house, 0, 2, 0);
        Houses.write(house, 0, 2, 1, 2, 60);
        Due.is("all uses", house.approve(0, 2), 100);
    }

    /** A TEXT that is REOPENED can be APPROVED again when no USE of it is BANNED any more. */
    private static void approveAgain() {
        GlossaryCrown house = Houses.of(0);
        int term = Houses.admitted(house, 0, 0, 0);
        Houses.documents(house, 1);
        Houses.write(house, 0, 0, 0);
        Houses.write(house, 0, 1, 9);
        house.approve(0, 0);
        house.approve(0, 1);
        house.ban(term, 0);
        Due.fails("still BANNED", house, STATE, () -> house.approve(0, 0));
        Due.is("the other text has no such use", house.approve(0, 1), 100);
        house.pass(3);
        Due.is("it stays APPROVED", house.ofText(0, 1, 1), 1);
        house.allow(term);
        Due.is("let again", house.approve(0, 0), 0);
    }

    private static void use() {
        GlossaryCrown house = Houses.of(0, 1);
        int open = house.term(0, 0, 0);
        int one = Houses.admitted(house, 0, 0, 1);
        int two = Houses.admitted(house, 1, 0, 1);
        int near = Houses.admitted(house, 1, 0, 2);
        int away = Houses.admitted(house, 0, 1, 3);
        Houses.documents(house, 1);
        Houses.write(house, 0, 0, 0, 3, 12, 76);
        Houses.usesAre("PROPOSED, of another language, unknown", house, 0, 0, NONE, NONE, NONE, NONE);
        Houses.write(house, 0, 1, 12, 15, 16, 11);
        Houses.usesAre("the four forms of a stem, and no other", house, 0, 1, away, away, NONE, NONE);
        Houses.write(house, 0, 2, 4);
        Houses.usesAre("of no term of that language", house, 0, 2, NONE);
        GlossaryCrown other = Houses.of(0, 1);
        Due.is("same terms", Houses.admitted(other, 0, 0, 1), 0);
        Houses.admitted(other, 1, 0, 1);
        Houses.admitted(other, 1, 0, 2);
        Houses.documents(other, 1);
        Houses.write(other, 0, 0, 5);
        Houses.usesAre("alone the smallest", other, 0, 0, 0);
        Houses.write(other, 0, 0, 8);
        Houses.usesAre("by what stands near", other, 0, 0, 1, 2);
        other.ban(1, 0);
        Houses.usesAre("a BANNED one too", other, 0, 0, 1, 2);
        Due.is("terms of the first house", open + 10 * one + 100 * two + 1000 * near, 3210);
    }

    /** PLAIN FORMS count up to 3 PLACES away, on both sides, each of them. */
    private static void useReach() {
        GlossaryCrown house = Houses.of(0, 1, 1);
        int zero = Houses.admitted(house, 0, 0, 0);
        int one = Houses.admitted(house, 1, 0, 0);
        int plain0 = Houses.admitted(house, 0, 0, 1);
        int plain1 = Houses.admitted(house, 2, 0, 2);
        Houses.documents(house, 6);
        Houses.write(house, 0, 0, 0, 60, 60, 8);
        Due.is("3 behind", house.use(0, 0, 0), one);
        Houses.write(house, 1, 0, 0, 60, 60, 60, 8);
        Due.is("4 behind", house.use(1, 0, 0), zero);
        Houses.write(house, 2, 0, 8, 60, 60, 0);
        Due.is("3 ahead", house.use(2, 0, 3), one);
        Houses.write(house, 3, 0, 8, 60, 60, 60, 0);
        Due.is("4 ahead", house.use(3, 0, 4), zero);
        Houses.write(house, 4, 0, 4, 60, 8, 0, 8, 4);
        Due.is("two against two", house.use(4, 0, 3), zero);
        Houses.write(house, 4, 0, 8);
        Due.is("three against two", house.use(4, 0, 3), one);
        house.write(4, 0, 1, 4);
        Due.is("three against three", house.use(4, 0, 3), zero);
        Houses.write(house, 5, 0, 60, 60, 60, 60, 60, 60, 60, 60, 8, 60, 60, 0);
        Due.is("on the last place", house.use(5, 0, 11), one);
        Due.is("the plain ones are themselves", house.use(4, 0, 0) * 10 + house.use(4, 0, 2), plain0 * 10 + plain1);
    }

    /** FORMS that could be several TERMS do not count, whatever they are then; nor do those of other TEXTS. */
    private static void useCountsPlainFormsOnly() {
        GlossaryCrown house = Houses.of(0, 1, 1);
        int zero = Houses.admitted(house, 0, 0, 0);
        int one = Houses.admitted(house, 1, 0, 0);
        int near = Houses.admitted(house, 1, 0, 1);
        int open = house.term(2, 0, 2);
        Houses.documents(house, 2);
        Houses.write(house, 0, 0, 4, 60, 0, 60, 1, 60, 60);
        Houses.usesAre("an ambiguous one does not hand on", house, 0, 0, near, NONE, one, NONE, zero, NONE, NONE);
        Houses.write(house, 1, 0, 60, 0, 8);
        Houses.usesAre("a PROPOSED one does not count", house, 1, 0, NONE, zero, NONE);
        Houses.admit(house, open);
        Houses.usesAre("an ADMITTED one does", house, 1, 0, NONE, one, open);
        house.ban(open, 0);
        Houses.usesAre("so does a BANNED one", house, 1, 0, NONE, one, open);
        Houses.write(house, 1, 1, 0, 8);
        Due.is("other languages have other terms", house.use(1, 1, 0), NONE);
        house.cut(1, 0);
        Houses.usesAre("what is cut does not count", house, 1, 0, NONE, zero);
    }

    private static void useRefuses() {
        GlossaryCrown house = new GlossaryCrown();
        Houses.documents(house, 1);
        Houses.write(house, 0, 0, 0, 4);
        house.cut(0, 0);
        Due.fails("a place that was cut", house, INDEX, () -> house.use(0, 0, 1));
        Due.fails("an empty text", house, INDEX, () -> house.use(0, 1, 0));
        Due.fails("document 1", house, INDEX, () -> house.use(1, 0, 0));
        Due.fails("language 3", house, INDEX, () -> house.use(0, 3, 0));
        for (int number : OUTSIDE) {
            Due.fails("document " + number, house, INDEX, () -> house.use(number, 0, 0));
            Due.fails("language " + number, house, INDEX, () -> house.use(0, number, 0));
            Due.fails("place " + number, house, INDEX, () -> house.use(0, 0, number));
        }
    }

    private static void ofText() {
        GlossaryCrown house = Houses.of(0, 1);
        Houses.preferred(house, 0, 0, 0);
        int banned = Houses.admitted(house, 0, 0, 1);
        Houses.admitted(house, 1, 0, 2);
        Houses.preferred(house, 0, 0, 3);
        Houses.admitted(house, 1, 0, 0);
        Houses.documents(house, 2);
        Houses.write(house, 1, 0, 60, 8, 4, 12, 0, 3, 5);
        house.ban(banned, 9);
        int[] due = {7, 0, 6, 2, 2, 16, 2};
        for (int what = 0; what <= 6; what++) {
            Due.is("ofText " + what, house.ofText(1, 0, what), due[what]);
        }
        int[] empty = {0, 0, 0, 0, NONE, 100, 0};
        for (int what = 0; what <= 6; what++) {
            Due.is("ofText of an empty one, " + what, house.ofText(1, 1, what), empty[what]);
        }
        house.write(1, 0, 0, 6);
        Due.is("the first one that is BANNED", house.ofText(1, 0, 4), 0);
        house.write(1, 0, 0, 2);
        Due.is("that CAN BE several", house.ofText(1, 0, 6), 3);
        Due.fails("what 7", house, ARGUMENT, () -> house.ofText(1, 0, 7));
        Due.fails("language 3, what 7", house, INDEX, () -> house.ofText(1, 3, 7));
        Due.fails("document 2, what 7", house, INDEX, () -> house.ofText(2, 0, 7));
        for (int number : OUTSIDE) {
            Due.fails("document " + number, house, INDEX, () -> house.ofText(number, 0, 0));
            Due.fails("language " + number, house, INDEX, () -> house.ofText(0, number, 0));
            Due.fails("what " + number, house, ARGUMENT, () -> house.ofText(0, 0, number));
        }
    }

    private static void agreement() {
        GlossaryCrown house = Houses.of(0, 0, 0);
        for (int language = 0; language < 3; language++) {
            for (int concept = 0; concept < 3; concept++) {
                Houses.admitted(house, concept, language, concept);
            }
        }
        Houses.documents(house, 2);
        Due.is("no text", house.agreement(0), 100);
        Houses.write(house, 0, 0, 0, 4, 0);
        Due.is("one text alone", house.agreement(0), 100);
        Houses.write(house, 0, 2, 5, 8);
        Due.is("one of three in both", house.agreement(0), 33);
        Houses.write(house, 0, 0, 9);
        Due.is("two of three", house.agreement(0), 66);
        Houses.write(house, 0, 1, 40);
        Due.is("a text with a form, but without uses", house.agreement(0), 0);
        house.cut(0, 1);
        Due.is("a text that has no form any more", house.agreement(0), 66);
        Due.is("another document", house.agreement(1), 100);
        Due.fails("document 2", house, INDEX, () -> house.agreement(2));
        for (int number : OUTSIDE) {
            Due.fails("document " + number, house, INDEX, () -> house.agreement(number));
        }
    }

    private static void agreementCutAndEmpty() {
        GlossaryCrown house = Houses.of(0, 0, 0);
        Houses.admitted(house, 0, 0, 0);
        Houses.admitted(house, 0, 1, 7);
        Houses.admitted(house, 1, 0, 1);
        Houses.documents(house, 1);
        Houses.write(house, 0, 0, 60, 61);
        Due.is("forms without uses", house.agreement(0), 100);
        house.write(0, 0, 0, 0);
        Houses.write(house, 0, 1, 28);
        Due.is("other terms of the same concept", house.agreement(0), 100);
        Houses.write(house, 0, 0, 4);
        Due.is("one of two", house.agreement(0), 50);
        house.join(0, 1);
        Due.is("joined", house.agreement(0), 100);
    }

    private static void pass() {
        GlossaryCrown house = new GlossaryCrown();
        Due.fails("no days", house, ARGUMENT, () -> house.pass(0));
        Due.fails("41 days", house, ARGUMENT, () -> house.pass(41));
        for (int number : OUTSIDE) {
            Due.fails("days " + number, house, ARGUMENT, () -> house.pass(number));
        }
        for (int i = 1; i <= 4; i++) {
            Due.is("40 days", house.pass(40), 0);
            Due.is("the day", house.many(12), 40 * i);
        }
        Due.fails("day 200", house, STATE, () -> house.pass(40));
        Due.fails("41 days, day 201", house, ARGUMENT, () -> house.pass(41));
        Due.is("up to day 199", house.pass(39), 0);
        Due.is("day 199", house.many(12), 199);
        Due.fails("one day more", house, STATE, () -> house.pass(1));
    }

    private static void passAndTexts() {
        GlossaryCrown house = Houses.of(0);
        int early = Houses.admitted(house, 0, 0, 0);
        int late = Houses.admitted(house, 0, 1, 1);
        Houses.documents(house, 3);
        Houses.write(house, 0, 0, 0);
        Houses.write(house, 0, 1, 60);
        Houses.write(house, 1, 1, 4);
        Houses.write(house, 2, 1, 4, 4);
        Houses.write(house, 2, 2, 4);
        house.approve(0, 0);
        house.approve(0, 1);
        house.approve(1, 1);
        house.approve(2, 2);
        house.pass(5);
        house.ban(early, 2);
        house.ban(late, 3);
        Due.is("day 6", house.pass(1), 0);
        Due.is("day 7: the grace of the first is over", house.pass(1), 2);
        Due.is("its other text", house.ofText(0, 1, 1), 2);
        Due.is("not the other document", house.ofText(1, 1, 1), 1);
        Due.is("day 8: that of the second", house.pass(1), 1);
        Due.is("a DRAFT that uses it does not count", house.ofText(2, 2, 1), 1);
        Due.is("nothing more", house.pass(40), 0);
        GlossaryCrown longer = Houses.of(0);
        Houses.admitted(longer, 0, 0, 0);
        Houses.admitted(longer, 0, 0, 1);
        Houses.documents(longer, 2);
        Houses.write(longer, 0, 0, 0);
        Houses.write(longer, 1, 0, 4);
        longer.approve(0, 0);
        longer.approve(1, 0);
        longer.ban(0, 30);
        longer.ban(1, 1);
        Due.is("29 days", longer.pass(29), 1);
        Due.is("on different days, in one call", longer.pass(1), 1);
    }

    private static void many() {
        GlossaryCrown house = Houses.of(0, 1, 2);
        int one = Houses.preferred(house, 0, 0, 0);
        Houses.preferred(house, 0, 1, 0);
        Houses.preferred(house, 1, 2, 0);
        Houses.admitted(house, 0, 0, 1);
        Houses.admitted(house, 0, 0, 2);
        int bad = Houses.admitted(house, 1, 0, 3);
        house.term(1, 0, 4);
        house.term(1, 0, 5);
        house.term(1, 0, 6);
        house.term(1, 0, 7);
        Houses.documents(house, 4);
        Houses.write(house, 0, 0, 0, 12);
        Houses.write(house, 0, 1, 3, 60);
        Houses.write(house, 1, 0, 4, 8);
        Houses.write(house, 1, 2, 1);
        Houses.write(house, 2, 0, 16);
        Houses.write(house, 2, 1, 60);
        house.cut(2, 1);
        house.approve(0, 0);
        house.approve(0, 1);
        house.approve(1, 2);
        house.ban(bad, 0);
        house.pass(9);
        int[] due = {3, 2, 10, 4, 2, 3, 1, 4, 2, 1, 2, 6, 9};
        for (int what = 0; what <= 12; what++) {
            Due.is("many " + what, house.many(what), due[what]);
        }
        house.join(0, 1);
        Due.is("concepts ever", house.many(0), 3);
        Due.is("with terms", house.many(1), 1);
        Due.is("still PREFERRED", house.ofTerm(one, 3), 2);
        Due.fails("what 13", house, ARGUMENT, () -> house.many(13));
        for (int number : OUTSIDE) {
            Due.fails("what " + number, house, ARGUMENT, () -> house.many(number));
        }
    }

    private static void meanConsistency() {
        GlossaryCrown house = Houses.of(0);
        Houses.preferred(house, 0, 0, 0);
        Houses.admitted(house, 0, 0, 1);
        Houses.documents(house, 3);
        Due.isExactly("no forms", house.meanConsistency(), 0.0);
        Houses.write(house, 0, 0, 4);
        Due.isExactly("0 alone", house.meanConsistency(), 0.0);
        Houses.write(house, 0, 1, 60);
        Due.isExactly("0 and 100", house.meanConsistency(), 50.0);
        Houses.write(house, 2, 0, 0, 4, 5);
        Due.isExactly("33 is cut, the mean is not", house.meanConsistency(), 133.0 / 3.0);
        Houses.write(house, 1, 0, 0, 1, 4);
        Due.isExactly("66 is cut", house.meanConsistency(), 199.0 / 4.0);
        house.cut(0, 1);
        Due.isExactly("without a form it does not count", house.meanConsistency(), 33.0);
        Houses.write(house, 0, 0, 1);
        Due.isExactly("the first text too", house.meanConsistency(), 149.0 / 3.0);
    }
}
