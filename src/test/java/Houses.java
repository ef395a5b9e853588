/** Ways to furnish a house for a test. */
final class Houses {
    static final Class<?> INDEX = IndexOutOfBoundsException.class;
    static final Class<?> ARGUMENT = IllegalArgumentException.class;
    static final Class<?> STATE = IllegalStateException.class;
    static final int NONE = -1;

    private Houses() {
    }

    /** A house with CONCEPTS of these DOMAINS. */
    static GlossaryCrown of(int... domains) {
        GlossaryCrown house = new GlossaryCrown();
        for (int domain : domains) {
            house.concept(domain);
        }
        return house;
    }

    /** Adds a TERM that is ADMITTED. */
    static int admitted(GlossaryCrown house, int concept, int language, int stem) {
        int term = house.term(concept, language, stem);
        admit(house, term);
        return term;
    }

    static void admit(GlossaryCrown house, int term) {
        for (int voter = 0; voter < 3; voter++) {
            house.vote(term, voter, true);
        }
    }

    static int preferred(GlossaryCrown house, int concept, int language, int stem) {
        int term = admitted(house, concept, language, stem);
        house.prefer(term);
        return term;
    }

    /** Writes the FORMS behind those that stand. */
    static void write(GlossaryCrown house, int document, int language, int... forms) {
        for (int form : forms) {
            house.write(document, language, house.ofText(document, language, 0), form);
        }
    }

    static void documents(GlossaryCrown house, int count) {
        for (int i = 0; i < count; i++) {
            house.document();
        }
    }

    /** Compares the USES of a TEXT, PLACE by PLACE. */
    static void usesAre(String what, GlossaryCrown house, int document, int language, int... due) {
        Due.is(what + ", length", house.ofText(document, language, 0), due.length);
        for (int place = 0; place < due.length; place++) {
            Due.is(what + ", use of place " + place, house.use(document, language, place), due[place]);
        }
    }
}
