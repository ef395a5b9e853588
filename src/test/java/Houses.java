/** Ways to furnish a house for a test. */
final class Houses {
    static final Class<?> INDEX = IndexOutOfBoundsException.class;
    static final Class<?> ARGUMENT = IllegalArgumentException.class;
    static final Class<?> STATE = IllegalStateException.class;
    static final int NONE = -1;
    /** Numbers that are outside of every range of the document. */
    static final int[] OUTSIDE = {-1, Integer.MIN_VALUE, Integer.MAX_VALUE};

    private Houses() {
    }

    /** A house with CONCEPTS of these DOMAINS. */
    static GlossaryCrown of(int... domains) {
        GlossaryCrown house = new GlossaryCrown();
        for (int domain : domains) {
            house.concept(domain);
        }
        return house;
    }

    /** Adds a TERM that is ADMITTED. */
    static int admitted(GlossaryCrown house, int concept, int language, int stem) {
        int term = house.term(concept, language, stem);
        admit(house, term);
        return term;
    }

    static void admit(GlossaryCrown house, int term) {
        for (int voter = 0; voter < 3; voter++) {
            house.vote(term, voter, true);
        }
    }

    static int preferred(GlossaryCrown house, int concept, int language, int stem) {
        int term = admitted(house, concept, language, stem);
        house.prefer(term);
        return term;
    }

    /** Writes the FORMS behind those that stand. */
    static void write(GlossaryCrown house, int document, int language, int... forms) {
        for (int form : forms) {
            house.write(document, language, house.ofText(document, language, 0), form);
        }
    }

    static void documents(GlossaryCrown house, int count) {
        for (int i = 0; i < count; i++) {
            house.document();
        }
    }

    /** Compares the USES of a TEXT, PLACE by PLACE. */
    static void usesAre(String what, GlossaryCrown house, int document, int language, int... due) {
        Due.is(what + ", length", house.ofText(document, language, 0), due.length);
        for (int place = 0; place < due.length; place++) {
            Due.is(what + ", use of place " + place, house.use(document, language, place), due[place]);
        }
    }

    /** Adds so many CONCEPTS of the DOMAIN 0. */
    static void concepts(GlossaryCrown house, int count) {
        for (int i = 0; i < count; i++) {
            house.concept(0);
        }
    }

    /** Writes the same FORM behind those that stand, so many times. */
    static void writeTimes(GlossaryCrown house, int document, int language, int form, int times) {
        for (int i = 0; i < times; i++) {
            Houses.write(house, document, language, form);
        }
    }

    /** Lets the DAY come. */
    static void passTo(GlossaryCrown house, int day) {
        for (int today = house.many(12); today < day; today = house.many(12)) {
            house.pass(Math.min(40, day - today));
        }
    }

    /**
     * All that the document allows: 12 CONCEPTS of two TERMS each, 8 TERMS in each LANGUAGE with the STEMS 0 to 7, all
     * ADMITTED, and 6 DOCUMENTS with 12 FORMS in each TEXT, of the STEMS 0 to 7 and 0 to 3 again.
     */
    static GlossaryCrown full() {
        GlossaryCrown house = new GlossaryCrown();
        concepts(house, 12);
        for (int term = 0; term < 24; term++) {
            admitted(house, term % 12, term / 8, term % 8);
        }
        documents(house, 6);
        for (int text = 0; text < 18; text++) {
            for (int place = 0; place < 12; place++) {
                house.write(text / 3, text % 3, place, 4 * (place % 8));
            }
        }
        return house;
    }

    static void approveAll(GlossaryCrown house) {
        for (int text = 0; text < 18; text++) {
            house.approve(text / 3, text % 3);
        }
    }
}
