/** A house of terms: CONCEPTS with their TERMS in three LANGUAGES, and the DOCUMENTS that use them. */
public final class GlossaryCrown {
    private static final int NONE = -1;

    private static final int DOMAINS = 4;
    private static final int MOST_CONCEPTS = 12;
    private static final int MOST_TERMS = 24;
    private static final int ALL_TERMS = ~0;
    private static final int LANGUAGES = 3;
    private static final int STEMS = 20;
    private static final int FORMS_OF_A_STEM = 4;
    private static final int FORMS = STEMS * FORMS_OF_A_STEM;
    private static final int VOTERS = 5;
    private static final int VOTES_THAT_DECIDE = 3;
    private static final int LONGEST_GRACE = 30;

    private static final int MOST_DOCUMENTS = 6;
    private static final int MOST_TEXTS = MOST_DOCUMENTS * LANGUAGES;
    private static final int PLACES = 12;
    private static final int REACH = 3;

    private static final int LAST_DAY = 199;
    private static final int MOST_DAYS_AT_ONCE = 40;

    private static final int PROPOSED = 0;
    private static final int ADMITTED = 1;
    private static final int PREFERRED = 2;
    private static final int BANNED = 3;

    private static final int DRAFT = 0;
    private static final int APPROVED = 1;
    private static final int REOPENED = 2;

    private static final int LAST_OF_TERM = 7;
    private static final int LAST_OF_CONCEPT = 6;
    private static final int LAST_OF_TEXT = 6;
    private static final int LAST_OF_MANY = 12;

    private static final long DIGEST_START = 58116L;
    private static final int DIGEST_DAYS = 10;

    private final Terms terms;
    private final Texts texts;
    private int day;

    public GlossaryCrown() {
        terms = new Terms();
        texts = new Texts(terms);
        day = 0;
    }

    // ---- concepts and terms

    public int concept(int domain)
            throws IllegalArgumentException, IllegalStateException {
        requireDomain(domain);
        requireRoomForConcept();
        return terms.addConcept(domain);
    }

    public int term(int concept, int language, int stem)
            throws IndexOutOfBoundsException, IllegalArgumentException, IllegalStateException {
        requireConcept(concept);
        requireLanguage(language);
        if (stem < 0 || stem >= STEMS) {
            throw new IllegalArgumentException("no such STEM");
        }
        if (terms.termCount >= MOST_TERMS || terms.hasTerm(concept, language, stem)) {
            throw new IllegalStateException("no room for that TERM");
        }
        return terms.addTerm(concept, language, stem);
    }

    public int vote(int term, int voter, boolean isFor)
            throws IndexOutOfBoundsException, IllegalStateException {
        requireTerm(term);
        if (voter < 0 || voter >= VOTERS) {
            throw new IndexOutOfBoundsException("no such VOTER");
        }
        if (terms.states[term] != PROPOSED || terms.hasVoted(term, voter)) {
            throw new IllegalStateException("no such vote any more");
        }
        int state = terms.addVote(term, voter, isFor);
        if (state == ADMITTED) {
            readAnew();
        }
        return state;
    }

    public int prefer(int term)
            throws IndexOutOfBoundsException, IllegalStateException {
        requireTerm(term);
        if (terms.states[term] != ADMITTED) {
            throw new IllegalStateException("not ADMITTED");
        }
        return terms.raise(term);
    }

    public int ban(int term, int grace)
            throws IndexOutOfBoundsException, IllegalArgumentException, IllegalStateException {
        requireTerm(term);
        if (grace < 0 || grace > LONGEST_GRACE) {
            throw new IllegalArgumentException("no such GRACE");
        }
        if (!terms.canBeBanned(term)) {
            throw new IllegalStateException("neither ADMITTED nor PREFERRED");
        }
        terms.forbid(term, day, grace);
        return texts.reopenDue(day);
    }

    public int allow(int term)
            throws IndexOutOfBoundsException, IllegalStateException {
        requireTerm(term);
        if (terms.states[term] != BANNED) {
            throw new IllegalStateException("not BANNED");
        }
        return terms.permit(term, day);
    }

    public int ofTerm(int term, int what)
            throws IndexOutOfBoundsException, IllegalArgumentException {
        requireTerm(term);
        requireWhat(what, LAST_OF_TERM);
        switch (what) {
            case 0: return terms.concepts[term];
            case 1: return terms.languages[term];
            case 2: return terms.stems[term];
            case 3: return terms.states[term];
            case 4: return Integer.bitCount(terms.votersFor[term]);
            case 5: return Integer.bitCount(terms.votersAgainst[term]);
            case 6: return terms.states[term] == BANNED ? terms.bannedFrom[term] : NONE;
            default: return texts.usesAmong(1 << term);
        }
    }

    public int ofConcept(int concept, int what)
            throws IndexOutOfBoundsException, IllegalArgumentException {
        requireConcept(concept);
        requireWhat(what, LAST_OF_CONCEPT);
        int members = terms.termsOf(concept);
        switch (what) {
            case 0: return terms.domains[concept];
            case 1: return Integer.bitCount(members);
            case 5: return texts.usesAmong(members);
            case 6: return texts.documentsWith(members);
            default: return terms.preferredOf(concept, what - 2);
        }
    }

    public int split(int concept, int part, int domain)
            throws IndexOutOfBoundsException, IllegalArgumentException, IllegalStateException {
        requireConcept(concept);
        int members = terms.termsOf(concept);
        if (part < 1 || (part & ~members) != 0 || part == members) {
            throw new IllegalArgumentException("no such part of the CONCEPT");
        }
        requireDomain(domain);
        requireRoomForConcept();
        int added = terms.addConcept(domain);
        terms.move(part, added);
        readAnew();
        return added;
    }

    public int join(int one, int other)
            throws IndexOutOfBoundsException, IllegalArgumentException, IllegalStateException {
        requireTwoConcepts(one, other);
        if (!terms.canBeJoined(one, other)) {
            throw new IllegalStateException("cannot be JOINED");
        }
        int kept = Math.min(one, other);
        terms.unite(kept, Math.max(one, other));
        readAnew();
        return Integer.bitCount(terms.termsOf(kept));
    }

    // ---- documents

    public int document()
            throws IllegalStateException {
        if (texts.documentCount >= MOST_DOCUMENTS) {
            throw new IllegalStateException("no room for a DOCUMENT");
        }
        return texts.addDocument();
    }

    public int write(int document, int language, int place, int form)
            throws IndexOutOfBoundsException, IllegalArgumentException, IllegalStateException {
        int text = requireText(document, language);
        requirePlace(place, texts.placesToWrite(text));
        if (form < 0 || form >= FORMS) {
            throw new IllegalArgumentException("no such FORM");
        }
        if (texts.states[text] == APPROVED) {
            throw new IllegalStateException("the TEXT is APPROVED");
        }
        return texts.put(text, place, form);
    }

    public int cut(int document, int language)
            throws IndexOutOfBoundsException, IllegalStateException {
        int text = requireText(document, language);
        if (texts.states[text] == APPROVED || texts.lengths[text] < 1) {
            throw new IllegalStateException("the TEXT cannot be cut");
        }
        return texts.dropLast(text);
    }

    public int approve(int document, int language)
            throws IndexOutOfBoundsException, IllegalStateException {
        int text = requireText(document, language);
        if (!texts.canBeApproved(text)) {
            throw new IllegalStateException("the TEXT cannot be APPROVED");
        }
        texts.states[text] = APPROVED;
        return texts.consistency(text);
    }

    public int use(int document, int language, int place)
            throws IndexOutOfBoundsException {
        int text = requireText(document, language);
        requirePlace(place, texts.lengths[text]);
        return texts.uses[text][place];
    }

    public int ofText(int document, int language, int what)
            throws IndexOutOfBoundsException, IllegalArgumentException {
        int text = requireText(document, language);
        requireWhat(what, LAST_OF_TEXT);
        switch (what) {
            case 0: return texts.lengths[text];
            case 1: return texts.states[text];
            case 2: return texts.usesAmongIn(text, ALL_TERMS);
            case 3: return texts.usesInState(text, BANNED);
            case 4: return texts.firstBanned(text);
            case 5: return texts.consistency(text);
            default: return texts.ambiguousForms(text);
        }
    }

    public int agreement(int document)
            throws IndexOutOfBoundsException {
        requireDocument(document);
        return texts.agreementOf(document);
    }

    public int pass(int days)
            throws IllegalArgumentException, IllegalStateException {
        requireDays(days);
        if (day + days > LAST_DAY) {
            throw new IllegalStateException("beyond the last DAY");
        }
        int reopened = 0;
        for (int i = 0; i < days; i++) {
            day++;
            reopened += texts.reopenDue(day);
        }
        return reopened;
    }

    public int many(int what)
            throws IllegalArgumentException {
        requireWhat(what, LAST_OF_MANY);
        switch (what) {
            case 0: return terms.conceptCount;
            case 1: return terms.conceptsWithTerms();
            case 2: return terms.termCount;
            case 3:
            case 4:
            case 5:
            case 6: return terms.termsInState(what - 3);
            case 7: return texts.documentCount;
            case 8:
            case 9:
            case 10: return texts.textsInState(what - 8);
            case 11: return texts.usesAmong(ALL_TERMS);
            default: return day;
        }
    }

    public double meanConsistency() {
        int written = texts.textsWithForms();
        return written == 0 ? 0.0 : (double) texts.sumOfConsistencies() / (double) written;
    }

    // ---- what would be (nothing is changed)

    public int reopenedBy(int term)
            throws IndexOutOfBoundsException {
        requireTerm(term);
        return terms.canBeBanned(term) ? texts.reopenedByOverdue(1 << term) : 0;
    }

    public int reopenedIn(int days)
            throws IllegalArgumentException {
        requireDays(days);
        return texts.reopenedByOverdue(terms.overdueOn(day + days));
    }

    public int changedBy(int one, int other)
            throws IndexOutOfBoundsException, IllegalArgumentException {
        requireTwoConcepts(one, other);
        if (!terms.canBeJoined(one, other)) {
            return NONE;
        }
        return texts.usesChangedByMoving(Math.max(one, other), Math.min(one, other));
    }

    public int formFor(int document, int language, int place, int term)
            throws IndexOutOfBoundsException {
        int text = requireText(document, language);
        requirePlace(place, texts.placesToWrite(text));
        requireTerm(term);
        // All FORMS of a STEM mean the same, so that its first one stands for them all.
        int form = terms.stems[term] * FORMS_OF_A_STEM;
        return texts.useOf(text, place, form, NONE, NONE) == term ? form : NONE;
    }

    public long digest() {
        long d = DIGEST_START;
        for (int what = 0; what <= LAST_OF_MANY; what++) {
            d = d * 31 + many(what);
        }
        d = digestTerms(d);
        d = digestConcepts(d);
        d = digestTexts(d);
        for (int document = 0; document < texts.documentCount; document++) {
            d = d * 31 + agreement(document);
        }
        return d * 31 + reopenedIn(DIGEST_DAYS);
    }

    private long digestTerms(long start) {
        long d = start;
        for (int term = 0; term < terms.termCount; term++) {
            for (int what = 0; what <= LAST_OF_TERM; what++) {
                d = d * 31 + ofTerm(term, what);
            }
            d = d * 31 + reopenedBy(term);
        }
        return d;
    }

    private long digestConcepts(long start) {
        long d = start;
        for (int concept = 0; concept < terms.conceptCount; concept++) {
            for (int what = 0; what <= LAST_OF_CONCEPT; what++) {
                d = d * 31 + ofConcept(concept, what);
            }
        }
        return d;
    }

    private long digestTexts(long start) {
        long d = start;
        for (int text = 0; text < texts.textCount(); text++) {
            int document = text / LANGUAGES;
            int language = text % LANGUAGES;
            for (int what = 0; what <= LAST_OF_TEXT; what++) {
                d = d * 31 + ofText(document, language, what);
            }
            for (int place = 0; place < texts.lengths[text]; place++) {
                d = d * 31 + use(document, language, place);
            }
        }
        return d;
    }

    /** A change of the TERMS can change what FORMS are, and by that bring a BANNED one into an APPROVED TEXT. */
    private void readAnew() {
        for (int text = 0; text < texts.textCount(); text++) {
            texts.read(text);
        }
        texts.reopenDue(day);
    }

    // ---- what is refused

    private void requireDomain(int domain) {
        if (domain < 0 || domain >= DOMAINS) {
            throw new IllegalArgumentException("no such DOMAIN");
        }
    }

    private void requireRoomForConcept() {
        if (terms.conceptCount >= MOST_CONCEPTS) {
            throw new IllegalStateException("no room for a CONCEPT");
        }
    }

    private void requireConcept(int concept) {
        if (!terms.isConcept(concept)) {
            throw new IndexOutOfBoundsException("no such CONCEPT");
        }
    }

    private void requireTwoConcepts(int one, int other) {
        requireConcept(one);
        requireConcept(other);
        if (one == other) {
            throw new IllegalArgumentException("the same CONCEPT");
        }
    }

    private void requireLanguage(int language) {
        if (language < 0 || language >= LANGUAGES) {
            throw new IndexOutOfBoundsException("no such LANGUAGE");
        }
    }

    private void requireTerm(int term) {
        if (!terms.isTerm(term)) {
            throw new IndexOutOfBoundsException("no such TERM");
        }
    }

    private void requireDocument(int document) {
        if (document < 0 || document >= texts.documentCount) {
            throw new IndexOutOfBoundsException("no such DOCUMENT");
        }
    }

    /** Answers the number of the TEXT of that DOCUMENT in that LANGUAGE. */
    private int requireText(int document, int language) {
        requireDocument(document);
        requireLanguage(language);
        return document * LANGUAGES + language;
    }

    private void requirePlace(int place, int places) {
        if (place < 0 || place >= places) {
            throw new IndexOutOfBoundsException("no such PLACE");
        }
    }

    private void requireWhat(int what, int last) {
        if (what < 0 || what > last) {
            throw new IllegalArgumentException("no such question");
        }
    }

    private void requireDays(int days) {
        if (days < 1 || days > MOST_DAYS_AT_ONCE) {
            throw new IllegalArgumentException("no such number of DAYS");
        }
    }

    /** Whether a set, an int with the bit m for each member m, has that member. */
    private static boolean has(int set, int member) {
        return ((set >> member) & 1) != 0;
    }

    /** The CONCEPTS and their TERMS. A set of TERMS is an int with the bit t for each TERM t. */
    private static final class Terms {
        int conceptCount = 0;
        int termCount = 0;
        final int[] domains = new int[MOST_CONCEPTS];
        final int[] concepts = new int[MOST_TERMS];
        final int[] languages = new int[MOST_TERMS];
        final int[] stems = new int[MOST_TERMS];
        final int[] states = new int[MOST_TERMS];
        final int[] votersFor = new int[MOST_TERMS];
        final int[] votersAgainst = new int[MOST_TERMS];
        final int[] bannedFrom = new int[MOST_TERMS];
        final int[] graces = new int[MOST_TERMS];
        /** By LANGUAGE and STEM the set of TERMS that are not PROPOSED; none ever leaves it. */
        final int[][] known = new int[LANGUAGES][STEMS];

        boolean isConcept(int concept) {
            return concept >= 0 && concept < conceptCount;
        }

        boolean isTerm(int term) {
            return term >= 0 && term < termCount;
        }

        int addConcept(int domain) {
            int added = conceptCount;
            domains[added] = domain;
            conceptCount++;
            return added;
        }

        boolean hasTerm(int concept, int language, int stem) {
            for (int term = 0; term < termCount; term++) {
                if (concepts[term] == concept && languages[term] == language && stems[term] == stem) {
                    return true;
                }
            }
            return false;
        }

        int addTerm(int concept, int language, int stem) {
            int added = termCount;
            concepts[added] = concept;
            languages[added] = language;
            stems[added] = stem;
            states[added] = PROPOSED;
            termCount++;
            return added;
        }

        boolean hasVoted(int term, int voter) {
            return has(votersFor[term] | votersAgainst[term], voter);
        }

        /** Answers the state of the TERM then. */
        int addVote(int term, int voter, boolean isFor) {
            int[] voters = isFor ? votersFor : votersAgainst;
            voters[term] |= 1 << voter;
            if (Integer.bitCount(votersFor[term]) >= VOTES_THAT_DECIDE) {
                states[term] = ADMITTED;
                makeKnown(term, languages[term], stems[term]);
            } else if (Integer.bitCount(votersAgainst[term]) >= VOTES_THAT_DECIDE) {
                votersFor[term] = 0;
                votersAgainst[term] = 0;
            }
            return states[term];
        }

        private static boolean isStem(int language, int stem) {
            return language >= 0 && language < LANGUAGES && stem >= 0 && stem < STEMS;
        }

        private void makeKnown(int term, int language, int stem) {
            if (isStem(language, stem)) {
                known[language][stem] |= 1 << term;
            }
        }

        /** Answers the TERM that was PREFERRED so far, or NONE. */
        int raise(int term) {
            int former = preferredOf(concepts[term], languages[term]);
            if (isTerm(former)) {
                states[former] = ADMITTED;
            }
            states[term] = PREFERRED;
            return former;
        }

        int preferredOf(int concept, int language) {
            for (int term = 0; term < termCount; term++) {
                if (concepts[term] == concept && languages[term] == language && states[term] == PREFERRED) {
                    return term;
                }
            }
            return NONE;
        }

        boolean canBeBanned(int term) {
            return states[term] == ADMITTED || states[term] == PREFERRED;
        }

        void forbid(int term, int day, int grace) {
            states[term] = BANNED;
            bannedFrom[term] = day;
            graces[term] = grace;
        }

        /** Answers for how many DAYS the TERM was BANNED. */
        int permit(int term, int day) {
            states[term] = ADMITTED;
            return day - bannedFrom[term];
        }

        /** The set of TERMS that are BANNED, and of which GRACE is over on that DAY. */
        int overdueOn(int day) {
            int overdue = 0;
            for (int term = 0; term < termCount; term++) {
                if (states[term] == BANNED && day >= bannedFrom[term] + graces[term]) {
                    overdue |= 1 << term;
                }
            }
            return overdue;
        }

        int termsOf(int concept) {
            int members = 0;
            for (int term = 0; term < termCount; term++) {
                if (concepts[term] == concept) {
                    members |= 1 << term;
                }
            }
            return members;
        }

        void move(int members, int concept) {
            for (int term = 0; term < termCount; term++) {
                if (has(members, term)) {
                    concepts[term] = concept;
                }
            }
        }

        boolean canBeJoined(int one, int other) {
            for (int term = 0; term < termCount; term++) {
                if (concepts[term] == one && hasTerm(other, languages[term], stems[term])) {
                    return false;
                }
            }
            return true;
        }

        void unite(int kept, int emptied) {
            for (int language = 0; language < LANGUAGES; language++) {
                int one = preferredOf(kept, language);
                int other = preferredOf(emptied, language);
                if (isTerm(one) && isTerm(other)) {
                    states[Math.max(one, other)] = ADMITTED;
                }
            }
            move(termsOf(emptied), kept);
        }

        int conceptsWithTerms() {
            int count = 0;
            for (int concept = 0; concept < conceptCount; concept++) {
                if (termsOf(concept) != 0) {
                    count++;
                }
            }
            return count;
        }

        int termsInState(int state) {
            int count = 0;
            for (int term = 0; term < termCount; term++) {
                if (states[term] == state) {
                    count++;
                }
            }
            return count;
        }

        /** The set of TERMS that a FORM CAN BE. */
        int canBe(int language, int form) {
            int stem = form / FORMS_OF_A_STEM;
            return isStem(language, stem) ? known[language][stem] : 0;
        }

        /** The DOMAIN of a TERM, if all TERMS of the CONCEPT moved were of the CONCEPT kept. */
        int domainIf(int term, int moved, int kept) {
            int owner = concepts[term] == moved ? kept : concepts[term];
            return isConcept(owner) ? domains[owner] : NONE;
        }
    }

    /** The DOCUMENTS; the TEXT of DOCUMENT d in LANGUAGE l has the number d * LANGUAGES + l. */
    private static final class Texts {
        private final Terms terms;
        int documentCount = 0;
        final int[] lengths = new int[MOST_TEXTS];
        final int[] states = new int[MOST_TEXTS];
        private final int[][] forms = new int[MOST_TEXTS][PLACES];
        /** What each FORM is; it follows from the FORMS and the TERMS, and is kept to be asked often. */
        final int[][] uses = new int[MOST_TEXTS][PLACES];

        Texts(Terms terms) {
            this.terms = terms;
        }

        int addDocument() {
            int added = documentCount;
            documentCount++;
            return added;
        }

        int textCount() {
            return documentCount * LANGUAGES;
        }

        int placesToWrite(int text) {
            return Math.min(lengths[text] + 1, PLACES);
        }

        int put(int text, int place, int form) {
            forms[text][place] = form;
            if (place == lengths[text]) {
                lengths[text]++;
            }
            states[text] = DRAFT;
            read(text);
            return lengths[text];
        }

        int dropLast(int text) {
            lengths[text]--;
            states[text] = DRAFT;
            read(text);
            return forms[text][lengths[text]];
        }

        // ---- what the FORMS are

        void read(int text) {
            for (int place = 0; place < lengths[text]; place++) {
                uses[text][place] = useOf(text, place, forms[text][place], NONE, NONE);
            }
        }

        /** What the FORM would be on that PLACE, if all TERMS of the CONCEPT moved were of the CONCEPT kept. */
        int useOf(int text, int place, int form, int moved, int kept) {
            int canBe = terms.canBe(text % LANGUAGES, form);
            if (Integer.bitCount(canBe) < 2) {
                return onlyOneOf(canBe);
            }
            int best = NONE;
            int most = -1;
            for (int term = 0; term < terms.termCount; term++) {
                if (has(canBe, term)) {
                    int support = supportFor(term, text, place, moved, kept);
                    if (support > most) {
                        best = term;
                        most = support;
                    }
                }
            }
            return best;
        }

        /** How many PLAIN FORMS near to the PLACE are TERMS of the same DOMAIN. */
        private int supportFor(int term, int text, int place, int moved, int kept) {
            int domain = terms.domainIf(term, moved, kept);
            int last = Math.min(place + REACH, lengths[text] - 1);
            int count = 0;
            for (int other = Math.max(place - REACH, 0); other <= last; other++) {
                int plain = onlyOneOf(terms.canBe(text % LANGUAGES, forms[text][other]));
                // The PLACE itself does not count: formFor asks for another FORM there than the one that stands.
                if (other != place && terms.isTerm(plain) && terms.domainIf(plain, moved, kept) == domain) {
                    count++;
                }
            }
            return count;
        }

        /** The TERM of a set of just one; NONE of any other. */
        private static int onlyOneOf(int set) {
            // The bits below the only one are as many as its number.
            return Integer.bitCount(set) == 1 ? Integer.bitCount(set - 1) : NONE;
        }

        int usesChangedByMoving(int moved, int kept) {
            int count = 0;
            for (int text = 0; text < textCount(); text++) {
                for (int place = 0; place < lengths[text]; place++) {
                    if (useOf(text, place, forms[text][place], moved, kept) != uses[text][place]) {
                        count++;
                    }
                }
            }
            return count;
        }

        // ---- one TEXT

        int usesAmongIn(int text, int set) {
            int count = 0;
            for (int place = 0; place < lengths[text]; place++) {
                int use = uses[text][place];
                if (use != NONE && has(set, use)) {
                    count++;
                }
            }
            return count;
        }

        private boolean isUseInState(int text, int place, int state) {
            int use = uses[text][place];
            return terms.isTerm(use) && terms.states[use] == state;
        }

        int usesInState(int text, int state) {
            int count = 0;
            for (int place = 0; place < lengths[text]; place++) {
                if (isUseInState(text, place, state)) {
                    count++;
                }
            }
            return count;
        }

        int firstBanned(int text) {
            for (int place = 0; place < lengths[text]; place++) {
                if (isUseInState(text, place, BANNED)) {
                    return place;
                }
            }
            return NONE;
        }

        int consistency(int text) {
            int all = usesAmongIn(text, ALL_TERMS);
            return all == 0 ? 100 : 100 * usesInState(text, PREFERRED) / all;
        }

        int ambiguousForms(int text) {
            int count = 0;
            for (int place = 0; place < lengths[text]; place++) {
                if (Integer.bitCount(terms.canBe(text % LANGUAGES, forms[text][place])) > 1) {
                    count++;
                }
            }
            return count;
        }

        boolean canBeApproved(int text) {
            return lengths[text] > 0 && states[text] != APPROVED && firstBanned(text) == NONE;
        }

        /** The set of CONCEPTS (the bit c for each) of the USES. */
        private int conceptsIn(int text) {
            int set = 0;
            for (int place = 0; place < lengths[text]; place++) {
                int use = uses[text][place];
                if (terms.isTerm(use)) {
                    set |= 1 << terms.concepts[use];
                }
            }
            return set;
        }

        // ---- one DOCUMENT

        int agreementOf(int document) {
            int anywhere = 0;
            int everywhere = ~0;
            for (int language = 0; language < LANGUAGES; language++) {
                int text = document * LANGUAGES + language;
                if (lengths[text] > 0) {
                    int here = conceptsIn(text);
                    anywhere |= here;
                    everywhere &= here;
                }
            }
            int all = Integer.bitCount(anywhere);
            return all == 0 ? 100 : 100 * Integer.bitCount(anywhere & everywhere) / all;
        }

        private int approvedIn(int document) {
            int count = 0;
            for (int language = 0; language < LANGUAGES; language++) {
                if (states[document * LANGUAGES + language] == APPROVED) {
                    count++;
                }
            }
            return count;
        }

        private boolean hasApprovedUseOf(int document, int set) {
            for (int language = 0; language < LANGUAGES; language++) {
                int text = document * LANGUAGES + language;
                if (states[text] == APPROVED && usesAmongIn(text, set) > 0) {
                    return true;
                }
            }
            return false;
        }

        private void reopen(int document) {
            for (int language = 0; language < LANGUAGES; language++) {
                int text = document * LANGUAGES + language;
                if (states[text] == APPROVED) {
                    states[text] = REOPENED;
                }
            }
        }

        // ---- all of them

        /** How many TEXTS would be REOPENED, if the GRACE of these TERMS was over. */
        int reopenedByOverdue(int overdue) {
            int count = 0;
            for (int document = 0; document < documentCount; document++) {
                if (hasApprovedUseOf(document, overdue)) {
                    count += approvedIn(document);
                }
            }
            return count;
        }

        /** Answers how many TEXTS are REOPENED. */
        int reopenDue(int day) {
            int overdue = terms.overdueOn(day);
            int count = reopenedByOverdue(overdue);
            for (int document = 0; document < documentCount; document++) {
                if (hasApprovedUseOf(document, overdue)) {
                    reopen(document);
                }
            }
            return count;
        }

        int usesAmong(int set) {
            int count = 0;
            for (int text = 0; text < textCount(); text++) {
                count += usesAmongIn(text, set);
            }
            return count;
        }

        int documentsWith(int set) {
            int count = 0;
            for (int document = 0; document < documentCount; document++) {
                int uses = 0;
                for (int language = 0; language < LANGUAGES; language++) {
                    uses += usesAmongIn(document * LANGUAGES + language, set);
                }
                if (uses > 0) {
                    count++;
                }
            }
            return count;
        }

        int textsInState(int state) {
            int count = 0;
            for (int text = 0; text < textCount(); text++) {
                if (lengths[text] > 0 && states[text] == state) {
                    count++;
                }
            }
            return count;
        }

        int textsWithForms() {
            int count = 0;
            for (int text = 0; text < textCount(); text++) {
                if (lengths[text] > 0) {
                    count++;
                }
            }
            return count;
        }

        int sumOfConsistencies() {
            int sum = 0;
            for (int text = 0; text < textCount(); text++) {
                if (lengths[text] > 0) {
                    sum += consistency(text);
                }
            }
            return sum;
        }
    }
}
