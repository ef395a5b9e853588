/**
 * Promises 12 to 15, sentence by sentence: what is too small, too large, empty, full, or refused.
 * Ahead of each test stands the sentence of the document that it is about.
 */
public final class WritesBoundsTest {
    private static final Class<?> INDEX = Houses.INDEX;
    private static final Class<?> ARGUMENT = Houses.ARGUMENT;
    private static final Class<?> STATE = Houses.STATE;
    private static final int NONE = Houses.NONE;
    private static final int[] OUTSIDE = Houses.OUTSIDE;

    public static void main(String[] args) {
        testDocument();
        testWrite();
        testCut();
        testApprove();
        Due.close("WritesBoundsTest");
    }

    // ---- 12: document

    private static void testDocument() {
        documentsAreSix();
        documentsAreEmpty();
    }

    // "IllegalStateException if there are 6"
    private static void documentsAreSix() {
        GlossaryCrown house = new GlossaryCrown();
        for (int document = 0; document < 6; document++) {
            int next = document;
            Due.fails("not there yet", house, INDEX, () -> house.ofText(next, 0, 0));
            Due.is("document " + document, house.document(), document);
        }
        Due.fails("the 7th", house, STATE, () -> house.document());
        Due.fails("the 7th again", house, STATE, () -> house.document());
        Due.fails("it is not there", house, INDEX, () -> house.ofText(6, 0, 0));
    }

    // "each with a TEXT in each LANGUAGE"; "A TEXT is a DRAFT (0, at first)"
    private static void documentsAreEmpty() {
        GlossaryCrown house = new GlossaryCrown();
        Houses.documents(house, 1);
        Houses.write(house, 0, 2, 0);
        house.approve(0, 2);
        Due.is("the next one", house.document(), 1);
        for (int language = 0; language < 3; language++) {
            Due.is("forms in language " + language, house.ofText(1, language, 0), 0);
            Due.is("a DRAFT in language " + language, house.ofText(1, language, 1), 0);
        }
        Due.fails("no text in language 3", house, INDEX, () -> house.ofText(1, 3, 0));
    }

    // ---- 13: write

    private static void testWrite() {
        writeDocument();
        writeLanguage();
        writePlaceOfAnEmptyText();
        writePlaceOfAFullText();
        writePlaceAfterCut();
        writeForm();
        writeOver();
        writeApproved();
        writeReopened();
        writeFirstException();
        writeTellsApartAnew();
    }

    // "IndexOutOfBoundsException if there is no such DOCUMENT"
    private static void writeDocument() {
        GlossaryCrown house = new GlossaryCrown();
        Houses.documents(house, 5);
        Due.is("the first document", house.write(0, 0, 0, 0), 1);
        Due.is("the last document", house.write(4, 0, 0, 0), 1);
        Due.fails("the next document", house, INDEX, () -> house.write(5, 0, 0, 0));
        Due.fails("document 6", house, INDEX, () -> house.write(6, 0, 0, 0));
        for (int document : OUTSIDE) {
            Due.fails("document " + document, house, INDEX, () -> house.write(document, 0, 0, 0));
        }
    }

    // "IndexOutOfBoundsException if there is no such .. LANGUAGE"
    private static void writeLanguage() {
        GlossaryCrown house = new GlossaryCrown();
        Houses.documents(house, 2);
        Due.is("the smallest language", house.write(0, 0, 0, 0), 1);
        Due.is("the greatest language", house.write(0, 2, 0, 0), 1);
        Due.fails("language 3", house, INDEX, () -> house.write(0, 3, 0, 0));
        Due.fails("language -1 of the second document", house, INDEX, () -> house.write(1, -1, 0, 0));
        for (int language : OUTSIDE) {
            Due.fails("language " + language, house, INDEX, () -> house.write(0, language, 0, 0));
        }
        Due.is("language 1 stays", house.ofText(0, 1, 0), 0);
        Due.is("so does the second document", house.ofText(1, 0, 0), 0);
    }

    // "the PLACE: that of one that there is, or the next one"; "without gaps"
    private static void writePlaceOfAnEmptyText() {
        GlossaryCrown house = new GlossaryCrown();
        Houses.documents(house, 1);
        Due.fails("place 1 of none", house, INDEX, () -> house.write(0, 0, 1, 0));
        Due.fails("place 11 of none", house, INDEX, () -> house.write(0, 0, 11, 0));
        Due.is("place 0 of none", house.write(0, 0, 0, 0), 1);
        Due.fails("place 2 of one", house, INDEX, () -> house.write(0, 0, 2, 0));
        Due.is("place 1 of one", house.write(0, 0, 1, 0), 2);
        Due.fails("place 1 of none in another language", house, INDEX, () -> house.write(0, 1, 1, 0));
        for (int place : OUTSIDE) {
            Due.fails("place " + place, house, INDEX, () -> house.write(0, 0, place, 0));
        }
    }

    // "up to 12 FORMS, on the PLACES 0 to 11"
    private static void writePlaceOfAFullText() {
        GlossaryCrown house = new GlossaryCrown();
        Houses.documents(house, 6);
        for (int place = 0; place < 12; place++) {
            Due.is("place " + place, house.write(5, 2, place, place), place + 1);
        }
        Due.fails("the 13th", house, INDEX, () -> house.write(5, 2, 12, 0));
        Due.fails("place 13", house, INDEX, () -> house.write(5, 2, 13, 0));
        Due.is("over the first", house.write(5, 2, 0, 0), 12);
        Due.is("over the last", house.write(5, 2, 11, 79), 12);
        Due.is("the last", house.cut(5, 2), 79);
    }

    // "one behind the other, without gaps": what is cut is no PLACE any more
    private static void writePlaceAfterCut() {
        GlossaryCrown house = new GlossaryCrown();
        Houses.documents(house, 1);
        Houses.writeTimes(house, 0, 0, 0, 12);
        house.cut(0, 0);
        Due.fails("place 12 of 11", house, INDEX, () -> house.write(0, 0, 12, 0));
        house.cut(0, 0);
        Due.fails("place 11 of 10", house, INDEX, () -> house.write(0, 0, 11, 0));
        Due.is("place 10 of 10", house.write(0, 0, 10, 5), 11);
        Due.is("what is written there", house.cut(0, 0), 5);
    }

    // "IllegalArgumentException if form is not 0 to 79"; "FORM / 4 is its STEM"
    private static void writeForm() {
        GlossaryCrown house = Houses.of(0);
        int smallest = Houses.admitted(house, 0, 0, 0);
        int greatest = Houses.admitted(house, 0, 0, 19);
        Houses.documents(house, 1);
        Due.fails("form 80", house, ARGUMENT, () -> house.write(0, 0, 0, 80));
        for (int form : OUTSIDE) {
            Due.fails("form " + form, house, ARGUMENT, () -> house.write(0, 0, 0, form));
        }
        Houses.write(house, 0, 0, 0, 3, 4, 75, 76, 79);
        Houses.usesAre("forms of the first and of the last stem", house, 0, 0, smallest, smallest, NONE, NONE, greatest,
            greatest);
        Due.is("the greatest form", house.cut(0, 0), 79);
    }

    // "Returns how many FORMS the TEXT has then.": no more, if one is written over; the others stay
    private static void writeOver() {
        GlossaryCrown house = new GlossaryCrown();
        Houses.documents(house, 1);
        Houses.write(house, 0, 1, 10, 11, 12);
        Due.is("over the first", house.write(0, 1, 0, 20), 3);
        Due.is("over the second", house.write(0, 1, 1, 21), 3);
        Due.is("the same again", house.write(0, 1, 1, 21), 3);
        Due.is("the third", house.cut(0, 1), 12);
        Due.is("the second", house.cut(0, 1), 21);
        Due.is("the first", house.cut(0, 1), 20);
    }

    // "IllegalStateException if the TEXT is APPROVED"
    private static void writeApproved() {
        GlossaryCrown house = new GlossaryCrown();
        Houses.documents(house, 2);
        Houses.write(house, 0, 0, 5);
        Houses.writeTimes(house, 1, 0, 6, 12);
        house.approve(0, 0);
        house.approve(1, 0);
        Due.fails("over a form", house, STATE, () -> house.write(0, 0, 0, 5));
        Due.fails("the next place", house, STATE, () -> house.write(0, 0, 1, 5));
        Due.fails("over the last of 12", house, STATE, () -> house.write(1, 0, 11, 6));
        Due.is("another text of the document", house.write(0, 1, 0, 5), 1);
        Due.is("it is APPROVED still", house.ofText(0, 0, 1), 1);
    }

    // "one that is written, or cut, is a DRAFT"
    private static void writeReopened() {
        GlossaryCrown house = Houses.of(0);
        int term = Houses.admitted(house, 0, 0, 0);
        Houses.documents(house, 1);
        Houses.write(house, 0, 0, 0, 60);
        Houses.write(house, 0, 1, 0);
        house.approve(0, 0);
        house.approve(0, 1);
        house.ban(term, 0);
        Due.is("REOPENED ones", house.many(10), 2);
        Due.is("the same form over the first of two", house.write(0, 0, 0, 0), 2);
        Due.is("a DRAFT", house.ofText(0, 0, 1), 0);
        Due.is("the next place", house.write(0, 1, 1, 0), 2);
        Due.is("a DRAFT too", house.ofText(0, 1, 1), 0);
        Due.is("none REOPENED", house.many(10), 0);
    }

    // "If several exceptions apply, the one that is named first is thrown."
    private static void writeFirstException() {
        GlossaryCrown house = new GlossaryCrown();
        Houses.documents(house, 1);
        Houses.writeTimes(house, 0, 0, 0, 12);
        Due.fails("no document, no form", house, INDEX, () -> house.write(1, 0, 0, 80));
        Due.fails("no language, no form", house, INDEX, () -> house.write(0, 3, 0, -1));
        Due.fails("no place, no form", house, INDEX, () -> house.write(0, 0, 12, 80));
        house.approve(0, 0);
        Due.fails("no place, APPROVED", house, INDEX, () -> house.write(0, 0, 12, 0));
        Due.fails("place -1, APPROVED", house, INDEX, () -> house.write(0, 0, -1, 0));
        Due.fails("form 80, APPROVED", house, ARGUMENT, () -> house.write(0, 0, 0, 80));
        Due.fails("form -1, APPROVED", house, ARGUMENT, () -> house.write(0, 0, 11, -1));
    }

    // "a form that could be several terms is told apart by what stands near to it", as it stands now
    private static void writeTellsApartAnew() {
        GlossaryCrown house = Houses.of(0, 1);
        int zero = Houses.admitted(house, 0, 0, 0);
        int one = Houses.admitted(house, 1, 0, 0);
        int near = Houses.admitted(house, 1, 0, 1);
        Houses.documents(house, 2);
        Houses.write(house, 0, 0, 0);
        Houses.write(house, 1, 0, 0);
        Due.is("alone", house.use(0, 0, 0), zero);
        house.write(0, 0, 1, 4);
        Houses.usesAre("a near one is written behind", house, 0, 0, one, near);
        Due.is("the other document stays", house.use(1, 0, 0), zero);
        house.write(0, 0, 1, 60);
        Houses.usesAre("it is written over", house, 0, 0, zero, NONE);
    }

    // ---- 14: cut

    private static void testCut() {
        cutText();
        cutEmpty();
        cutFull();
        cutApproved();
        cutReopened();
        cutTellsApartAnew();
    }

    // "IndexOutOfBoundsException if there is no such DOCUMENT, or LANGUAGE"
    private static void cutText() {
        GlossaryCrown house = new GlossaryCrown();
        Houses.documents(house, 2);
        Houses.write(house, 0, 0, 1);
        Houses.write(house, 1, 2, 2);
        Due.fails("the next document", house, INDEX, () -> house.cut(2, 0));
        Due.fails("document 6", house, INDEX, () -> house.cut(6, 0));
        Due.fails("language 3", house, INDEX, () -> house.cut(0, 3));
        Due.fails("language -1 of the second", house, INDEX, () -> house.cut(1, -1));
        for (int number : OUTSIDE) {
            Due.fails("document " + number, house, INDEX, () -> house.cut(number, 0));
            Due.fails("language " + number, house, INDEX, () -> house.cut(0, number));
        }
        Due.is("the first text", house.cut(0, 0), 1);
        Due.is("the last text", house.cut(1, 2), 2);
    }

    // "IllegalStateException if it .. has none"
    private static void cutEmpty() {
        GlossaryCrown house = new GlossaryCrown();
        Houses.documents(house, 1);
        Due.fails("never had one", house, STATE, () -> house.cut(0, 0));
        Houses.write(house, 0, 0, 0);
        Due.fails("another text", house, STATE, () -> house.cut(0, 1));
        Due.is("the only form, 0", house.cut(0, 0), 0);
        Due.fails("has none any more", house, STATE, () -> house.cut(0, 0));
        Due.is("written again", house.write(0, 0, 0, 9), 1);
    }

    // "Cuts the last FORM of a TEXT." "Returns that FORM."
    private static void cutFull() {
        GlossaryCrown house = new GlossaryCrown();
        Houses.documents(house, 6);
        for (int place = 0; place < 12; place++) {
            Houses.write(house, 5, 2, 79 - place);
        }
        for (int place = 11; place >= 0; place--) {
            Due.is("form of place " + place, house.cut(5, 2), 79 - place);
            Due.is("left", house.ofText(5, 2, 0), place);
        }
    }

    // "IllegalStateException if it is APPROVED"
    private static void cutApproved() {
        GlossaryCrown house = new GlossaryCrown();
        Houses.documents(house, 1);
        Houses.write(house, 0, 0, 1, 2);
        Houses.write(house, 0, 1, 3);
        house.approve(0, 0);
        Due.fails("APPROVED", house, STATE, () -> house.cut(0, 0));
        Due.is("another text of the document", house.cut(0, 1), 3);
    }

    // "one that is written, or cut, is a DRAFT", without a FORM too
    private static void cutReopened() {
        GlossaryCrown house = Houses.of(0);
        int term = Houses.admitted(house, 0, 0, 0);
        Houses.documents(house, 1);
        Houses.write(house, 0, 0, 0, 1);
        Houses.write(house, 0, 1, 2);
        house.approve(0, 0);
        house.approve(0, 1);
        house.ban(term, 0);
        Due.is("of two", house.cut(0, 0), 1);
        Due.is("a DRAFT", house.ofText(0, 0, 1), 0);
        Due.is("the other one stays", house.ofText(0, 1, 1), 2);
        Due.is("of one", house.cut(0, 1), 2);
        Due.is("a DRAFT too", house.ofText(0, 1, 1), 0);
        Due.is("DRAFTS with a form", house.many(8), 1);
        Due.is("REOPENED ones", house.many(10), 0);
    }

    // "a form that could be several terms is told apart by what stands near to it", as it stands now
    private static void cutTellsApartAnew() {
        GlossaryCrown house = Houses.of(0, 1);
        int zero = Houses.admitted(house, 0, 0, 0);
        int one = Houses.admitted(house, 1, 0, 0);
        Houses.admitted(house, 1, 0, 1);
        Houses.documents(house, 1);
        Houses.write(house, 0, 0, 0, 60, 60, 4);
        Due.is("by the last form", house.use(0, 0, 0), one);
        house.cut(0, 0);
        Due.is("that is cut", house.use(0, 0, 0), zero);
    }

    // ---- 15: approve

    private static void testApprove() {
        approveText();
        approveEmpty();
        approveApproved();
        approveBanned();
        approveCanBeBanned();
        approveReopened();
        approveConsistency();
    }

    // "IndexOutOfBoundsException if there is no such DOCUMENT, or LANGUAGE"
    private static void approveText() {
        GlossaryCrown house = new GlossaryCrown();
        Houses.documents(house, 2);
        Houses.write(house, 0, 0, 1);
        Houses.write(house, 0, 2, 1);
        Houses.write(house, 1, 2, 2);
        Due.fails("the next document", house, INDEX, () -> house.approve(2, 0));
        Due.fails("document 6", house, INDEX, () -> house.approve(6, 0));
        Due.fails("language 3", house, INDEX, () -> house.approve(0, 3));
        Due.fails("language -1 of the second", house, INDEX, () -> house.approve(1, -1));
        for (int number : OUTSIDE) {
            Due.fails("document " + number, house, INDEX, () -> house.approve(number, 0));
            Due.fails("language " + number, house, INDEX, () -> house.approve(0, number));
        }
        Due.is("the first text", house.approve(0, 0), 100);
        Due.is("the last text", house.approve(1, 2), 100);
        Due.is("no other one", house.ofText(0, 2, 1), 0);
    }

    // "A TEXT can be APPROVED, if it has a FORM"
    private static void approveEmpty() {
        GlossaryCrown house = new GlossaryCrown();
        Houses.documents(house, 1);
        Houses.write(house, 0, 1, 0);
        Due.fails("never had one", house, STATE, () -> house.approve(0, 0));
        house.cut(0, 1);
        Due.fails("has none any more", house, STATE, () -> house.approve(0, 1));
        Houses.write(house, 0, 1, 0);
        Due.is("has one", house.approve(0, 1), 100);
    }

    // "A TEXT can be APPROVED, if it .. is not APPROVED"
    private static void approveApproved() {
        GlossaryCrown house = new GlossaryCrown();
        Houses.documents(house, 1);
        Houses.write(house, 0, 0, 0);
        house.approve(0, 0);
        Due.fails("again", house, STATE, () -> house.approve(0, 0));
        house.pass(40);
        Due.fails("later", house, STATE, () -> house.approve(0, 0));
    }

    // "A TEXT can be APPROVED, if .. none of its USES is BANNED", on the first PLACE, on the last, in the GRACE
    private static void approveBanned() {
        GlossaryCrown house = Houses.of(0);
        int term = Houses.admitted(house, 0, 0, 0);
        Houses.documents(house, 2);
        Houses.write(house, 0, 0, 0);
        Houses.writeTimes(house, 0, 0, 60, 11);
        Houses.writeTimes(house, 1, 0, 60, 11);
        Houses.write(house, 1, 0, 0);
        house.ban(term, 1);
        Due.fails("on the first place, in the grace", house, STATE, () -> house.approve(0, 0));
        Due.fails("on the last place, in the grace", house, STATE, () -> house.approve(1, 0));
        house.pass(1);
        Due.fails("on the first place", house, STATE, () -> house.approve(0, 0));
        Due.fails("on the last place", house, STATE, () -> house.approve(1, 0));
        house.cut(1, 0);
        Due.is("without it", house.approve(1, 0), 100);
        house.allow(term);
        Due.is("let again", house.approve(0, 0), 0);
    }

    // "none of its USES is BANNED": that a FORM CAN BE a TERM that is BANNED hinders nothing
    private static void approveCanBeBanned() {
        GlossaryCrown house = Houses.of(0, 1);
        int zero = Houses.admitted(house, 0, 0, 0);
        int one = Houses.admitted(house, 1, 0, 0);
        Houses.admitted(house, 1, 0, 1);
        Houses.documents(house, 2);
        Houses.write(house, 0, 0, 0);
        Houses.write(house, 1, 0, 0, 4);
        house.ban(one, 0);
        Due.is("the smaller one is the use", house.approve(0, 0), 0);
        Due.fails("the BANNED one is the use", house, STATE, () -> house.approve(1, 0));
        Due.is("the use of the first", house.use(0, 0, 0), zero);
    }

    // "is not APPROVED": one that is REOPENED is not
    private static void approveReopened() {
        GlossaryCrown house = Houses.of(0);
        int term = Houses.admitted(house, 0, 0, 0);
        Houses.documents(house, 1);
        Houses.write(house, 0, 0, 0);
        Houses.write(house, 0, 1, 60);
        house.approve(0, 0);
        house.approve(0, 1);
        house.ban(term, 0);
        Due.fails("the one with the use", house, STATE, () -> house.approve(0, 0));
        Due.is("the one without", house.approve(0, 1), 100);
        house.write(0, 0, 0, 61);
        Due.is("written over", house.approve(0, 0), 100);
    }

    // "Returns its CONSISTENCY."; "/ is cut"
    private static void approveConsistency() {
        GlossaryCrown house = Houses.of(0);
        Houses.preferred(house, 0, 0, 0);
        Houses.admitted(house, 0, 0, 1);
        Houses.documents(house, 5);
        Houses.write(house, 0, 0, 60, 61);
        Due.is("without uses", house.approve(0, 0), 100);
        Houses.write(house, 1, 0, 4, 60);
        Due.is("none of one", house.approve(1, 0), 0);
        Houses.write(house, 2, 0, 0, 60);
        Due.is("one of one", house.approve(2, 0), 100);
        Houses.write(house, 3, 0, 0);
        Houses.writeTimes(house, 3, 0, 4, 11);
        Due.is("one of twelve", house.approve(3, 0), 8);
        Houses.write(house, 4, 0, 4);
        Houses.writeTimes(house, 4, 0, 0, 11);
        Due.is("eleven of twelve", house.approve(4, 0), 91);
    }
}
