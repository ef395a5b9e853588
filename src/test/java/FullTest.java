/** A house that is full: every number that the document allows is there, and each call is made in it. */
public final class FullTest {
    private static final Class<?> STATE = Houses.STATE;
    private static final int TERMS = 24;

    private final GlossaryCrown house = new GlossaryCrown();
    private final PlainHouse plain = new PlainHouse();

    public static void main(String[] args) {
        new FullTest().go();
        Due.close("FullTest");
    }

    private void go() {
        furnish();
        compare("furnished");
        Due.fails("a 13th concept", house, STATE, () -> house.concept(0));
        Due.fails("a 25th term", house, STATE, () -> house.term(0, 0, 0));
        Due.fails("a 7th document", house, STATE, () -> house.document());
        Due.fails("no room to split", house, STATE, () -> house.split(11, 1 << 23, 0));
        Due.is("prefer", house.prefer(TERMS - 1), plain.prefer(TERMS - 1));
        Due.is("approve the last", house.approve(5, 2), plain.approve(5, 2));
        Due.is("approve the first", house.approve(0, 0), plain.approve(0, 0));
        Due.is("approve its neighbour", house.approve(0, 1), plain.approve(0, 1));
        compare("approved");
        Due.is("join", house.join(11, 10), plain.join(11, 10));
        compare("joined");
        Due.is("ban the last", house.ban(TERMS - 1, 2), plain.ban(TERMS - 1, 2));
        Due.is("ban the first", house.ban(0, 0), plain.ban(0, 0));
        compare("banned");
        Due.is("pass", house.pass(40), plain.pass(40));
        compare("passed");
        Due.is("allow", house.allow(TERMS - 1), plain.allow(TERMS - 1));
        Due.is("cut", house.cut(5, 2), plain.cut(5, 2));
        compare("cut");
    }

    /** Each CONCEPT has two TERMS; four STEMS stand for three of them each. */
    private void furnish() {
        for (int concept = 0; concept < 12; concept++) {
            Due.is("concept", house.concept(concept % 4), plain.concept(concept % 4));
        }
        for (int term = 0; term < TERMS; term++) {
            int language = term < 18 ? 0 : 2;
            int stem = term < 12 ? term % 4 : term - 4;
            Due.is("term", house.term(term % 12, language, stem), plain.term(term % 12, language, stem));
            for (int voter = 2; voter < 5; voter++) {
                Due.is("vote", house.vote(term, voter, true), plain.vote(term, voter, true));
            }
        }
        for (int text = 0; text < 18; text++) {
            if (text % 3 == 0) {
                Due.is("document", house.document(), plain.document());
            }
            for (int place = 0; place < 12; place++) {
                int form = place % 3 == 0 ? 3 + 4 * (place / 3) : 4 * ((text + place) % 20);
                Due.is("write", house.write(text / 3, text % 3, place, form),
                    plain.write(text / 3, text % 3, place, form));
            }
        }
    }

    private void compare(String when) {
        Due.is(when + ", digest", house.digest(), plain.digest());
        Due.isExactly(when + ", meanConsistency", house.meanConsistency(), plain.meanConsistency());
        for (int one = 0; one < 12; one++) {
            for (int other = 0; other < 12; other++) {
                if (one != other) {
                    Due.is(when + ", changedBy " + one + ", " + other, house.changedBy(one, other),
                        plain.changedBy(one, other));
                }
            }
        }
        for (int text = 0; text < 18; text++) {
            for (int term = 0; term < TERMS; term++) {
                int place = (text + term) % 11;
                Due.is(when + ", formFor " + text + ", " + place + ", " + term,
                    house.formFor(text / 3, text % 3, place, term), plain.formFor(text / 3, text % 3, place, term));
            }
        }
    }
}
