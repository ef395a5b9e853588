import java.util.ArrayList;
import java.util.HashSet;
import java.util.List;
import java.util.Set;

/**
 * The document told once more, as plainly as can be: nothing is kept that can be found out, and what would be is
 * found by doing it on a copy. It throws the same exceptions. The tests hold the class against it.
 */
final class PlainHouse {
    private static final int NONE = -1;
    private static final int PROPOSED = 0;
    private static final int ADMITTED = 1;
    private static final int PREFERRED = 2;
    private static final int BANNED = 3;
    private static final int DRAFT = 0;
    private static final int APPROVED = 1;
    private static final int REOPENED = 2;

    private static final class Term {
        int concept;
        int language;
        int stem;
        int state = PROPOSED;
        Set<Integer> votesFor = new HashSet<>();
        Set<Integer> votesAgainst = new HashSet<>();
        int bannedFrom = NONE;
        int graceOver;
    }

    private static final class Text {
        List<Integer> forms = new ArrayList<>();
        int state = DRAFT;
    }

    private final List<Integer> domains = new ArrayList<>();
    private final List<Term> terms = new ArrayList<>();
    private final List<List<Text>> documents = new ArrayList<>();
    private int day = 0;

    private PlainHouse copy() {
        PlainHouse copy = new PlainHouse();
        copy.domains.addAll(domains);
        for (Term term : terms) {
            Term twin = new Term();
            twin.concept = term.concept;
            twin.language = term.language;
            twin.stem = term.stem;
            twin.state = term.state;
            twin.votesFor.addAll(term.votesFor);
            twin.votesAgainst.addAll(term.votesAgainst);
            twin.bannedFrom = term.bannedFrom;
            twin.graceOver = term.graceOver;
            copy.terms.add(twin);
        }
        for (List<Text> document : documents) {
            List<Text> twins = new ArrayList<>();
            for (Text text : document) {
                Text twin = new Text();
                twin.forms.addAll(text.forms);
                twin.state = text.state;
                twins.add(twin);
            }
            copy.documents.add(twins);
        }
        copy.day = day;
        return copy;
    }

    private static void index(boolean holds) {
        if (!holds) {
            throw new IndexOutOfBoundsException();
        }
    }

    private static void argument(boolean holds) {
        if (!holds) {
            throw new IllegalArgumentException();
        }
    }

    private static void state(boolean holds) {
        if (!holds) {
            throw new IllegalStateException();
        }
    }

    private static boolean isIn(int number, int first, int last) {
        return first <= number && number <= last;
    }

    private Term termAt(int term) {
        index(isIn(term, 0, terms.size() - 1));
        return terms.get(term);
    }

    private Text textAt(int document, int language) {
        index(isIn(document, 0, documents.size() - 1) && isIn(language, 0, 2));
        return documents.get(document).get(language);
    }

    private void conceptAt(int concept) {
        index(isIn(concept, 0, domains.size() - 1));
    }

    int concept(int domain) {
        argument(isIn(domain, 0, 3));
        state(domains.size() < 12);
        domains.add(domain);
        return domains.size() - 1;
    }

    int term(int concept, int language, int stem) {
        conceptAt(concept);
        index(isIn(language, 0, 2));
        argument(isIn(stem, 0, 19));
        state(terms.size() < 24);
        for (Term term : terms) {
            state(term.concept != concept || term.language != language || term.stem != stem);
        }
        Term added = new Term();
        added.concept = concept;
        added.language = language;
        added.stem = stem;
        terms.add(added);
        return terms.size() - 1;
    }

    int vote(int term, int voter, boolean isFor) {
        Term about = termAt(term);
        index(isIn(voter, 0, 4));
        state(about.state == PROPOSED && !about.votesFor.contains(voter) && !about.votesAgainst.contains(voter));
        (isFor ? about.votesFor : about.votesAgainst).add(voter);
        if (about.votesFor.size() == 3) {
            about.state = ADMITTED;
        }
        if (about.votesAgainst.size() == 3) {
            about.votesFor.clear();
            about.votesAgainst.clear();
        }
        endOfChange();
        return about.state;
    }

    private int preferred(int concept, int language) {
        for (int i = 0; i < terms.size(); i++) {
            Term term = terms.get(i);
            if (term.concept == concept && term.language == language && term.state == PREFERRED) {
                return i;
            }
        }
        return NONE;
    }

    int prefer(int term) {
        Term chosen = termAt(term);
        state(chosen.state == ADMITTED);
        int former = preferred(chosen.concept, chosen.language);
        if (former != NONE) {
            terms.get(former).state = ADMITTED;
        }
        chosen.state = PREFERRED;
        endOfChange();
        return former;
    }

    int ban(int term, int grace) {
        Term banned = termAt(term);
        argument(isIn(grace, 0, 30));
        state(banned.state == ADMITTED || banned.state == PREFERRED);
        banned.state = BANNED;
        banned.bannedFrom = day;
        banned.graceOver = day + grace;
        return endOfChange();
    }

    int allow(int term) {
        Term banned = termAt(term);
        state(banned.state == BANNED);
        int days = day - banned.bannedFrom;
        banned.state = ADMITTED;
        banned.bannedFrom = NONE;
        endOfChange();
        return days;
    }

    private int endOfChange() {
        int reopened = 0;
        for (List<Text> document : documents) {
            boolean hasOverdue = false;
            for (int language = 0; language < 3; language++) {
                Text text = document.get(language);
                for (int place = 0; place < text.forms.size(); place++) {
                    int use = useIn(text, language, place);
                    hasOverdue |= text.state == APPROVED && use != NONE && terms.get(use).state == BANNED
                            && day >= terms.get(use).graceOver;
                }
            }
            for (Text text : document) {
                if (hasOverdue && text.state == APPROVED) {
                    text.state = REOPENED;
                    reopened++;
                }
            }
        }
        return reopened;
    }

    private List<Integer> canBe(int language, int form) {
        List<Integer> found = new ArrayList<>();
        for (int i = 0; i < terms.size(); i++) {
            Term term = terms.get(i);
            if (term.language == language && term.stem == form / 4 && term.state != PROPOSED) {
                found.add(i);
            }
        }
        return found;
    }

    private int domainOf(int term) {
        return domains.get(terms.get(term).concept);
    }

    private int useIn(Text text, int language, int place) {
        List<Integer> candidates = canBe(language, text.forms.get(place));
        int best = NONE;
        int most = -1;
        for (int candidate : candidates) {
            int near = 0;
            for (int other = 0; other < text.forms.size(); other++) {
                List<Integer> there = canBe(language, text.forms.get(other));
                if (Math.abs(other - place) <= 3 && there.size() == 1
                        && domainOf(there.get(0)) == domainOf(candidate)) {
                    near++;
                }
            }
            if (near > most) {
                most = near;
                best = candidate;
            }
        }
        return best;
    }

    private List<Integer> allUses() {
        List<Integer> uses = new ArrayList<>();
        for (List<Text> document : documents) {
            for (int language = 0; language < 3; language++) {
                uses.addAll(usesOf(document.get(language), language));
            }
        }
        return uses;
    }

    /** PLACE by PLACE, with NONE. */
    private List<Integer> usesOf(Text text, int language) {
        List<Integer> uses = new ArrayList<>();
        for (int place = 0; place < text.forms.size(); place++) {
            uses.add(useIn(text, language, place));
        }
        return uses;
    }

    int ofTerm(int term, int what) {
        Term asked = termAt(term);
        argument(isIn(what, 0, 7));
        int uses = 0;
        for (int use : allUses()) {
            uses += use == term ? 1 : 0;
        }
        return new int[] {asked.concept, asked.language, asked.stem, asked.state, asked.votesFor.size(),
            asked.votesAgainst.size(), asked.bannedFrom, uses}[what];
    }

    int ofConcept(int concept, int what) {
        conceptAt(concept);
        argument(isIn(what, 0, 6));
        int members = 0;
        for (Term term : terms) {
            members += term.concept == concept ? 1 : 0;
        }
        int uses = 0;
        int in = 0;
        for (List<Text> document : documents) {
            int here = 0;
            for (int language = 0; language < 3; language++) {
                for (int use : usesOf(document.get(language), language)) {
                    here += use != NONE && terms.get(use).concept == concept ? 1 : 0;
                }
            }
            uses += here;
            in += here > 0 ? 1 : 0;
        }
        return new int[] {domains.get(concept), members, preferred(concept, 0), preferred(concept, 1),
            preferred(concept, 2), uses, in}[what];
    }

    int split(int concept, int set, int domain) {
        conceptAt(concept);
        argument(set >= 1);
        int left = 0;
        for (int bit = 0; bit < 31; bit++) {
            boolean isMember = bit < terms.size() && terms.get(bit).concept == concept;
            boolean isChosen = (set & 1 << bit) != 0;
            argument(isMember || !isChosen);
            left += isMember && !isChosen ? 1 : 0;
        }
        argument(left > 0);
        argument(isIn(domain, 0, 3));
        state(domains.size() < 12);
        domains.add(domain);
        for (int i = 0; i < terms.size(); i++) {
            if ((set & 1 << i) != 0) {
                terms.get(i).concept = domains.size() - 1;
            }
        }
        endOfChange();
        return domains.size() - 1;
    }

    private boolean canJoin(int one, int other) {
        Set<String> seen = new HashSet<>();
        for (Term term : terms) {
            if ((term.concept == one || term.concept == other) && !seen.add(term.language + " " + term.stem)) {
                return false;
            }
        }
        return true;
    }

    int join(int one, int other) {
        conceptAt(one);
        conceptAt(other);
        argument(one != other);
        state(canJoin(one, other));
        int kept = Math.min(one, other);
        for (Term term : terms) {
            term.concept = term.concept == one || term.concept == other ? kept : term.concept;
        }
        for (int language = 0; language < 3; language++) {
            boolean isTaken = false;
            for (Term term : terms) {
                if (term.concept == kept && term.language == language && term.state == PREFERRED) {
                    term.state = isTaken ? ADMITTED : PREFERRED;
                    isTaken = true;
                }
            }
        }
        endOfChange();
        return ofConcept(kept, 1);
    }

    int document() {
        state(documents.size() < 6);
        documents.add(List.of(new Text(), new Text(), new Text()));
        return documents.size() - 1;
    }

    private static void put(Text text, int place, int form) {
        if (place == text.forms.size()) {
            text.forms.add(form);
        } else {
            text.forms.set(place, form);
        }
    }

    int write(int document, int language, int place, int form) {
        Text text = textAt(document, language);
        index(isIn(place, 0, Math.min(text.forms.size(), 11)));
        argument(isIn(form, 0, 79));
        state(text.state != APPROVED);
        put(text, place, form);
        text.state = DRAFT;
        endOfChange();
        return text.forms.size();
    }

    int cut(int document, int language) {
        Text text = textAt(document, language);
        state(text.state != APPROVED && !text.forms.isEmpty());
        int last = text.forms.remove(text.forms.size() - 1);
        text.state = DRAFT;
        endOfChange();
        return last;
    }

    int approve(int document, int language) {
        Text text = textAt(document, language);
        state(!text.forms.isEmpty() && text.state != APPROVED);
        for (int use : usesOf(text, language)) {
            state(use == NONE || terms.get(use).state != BANNED);
        }
        text.state = APPROVED;
        endOfChange();
        return ofText(document, language, 5);
    }

    int use(int document, int language, int place) {
        Text text = textAt(document, language);
        index(isIn(place, 0, text.forms.size() - 1));
        return useIn(text, language, place);
    }

    int ofText(int document, int language, int what) {
        Text text = textAt(document, language);
        argument(isIn(what, 0, 6));
        int uses = 0;
        int banned = 0;
        int first = NONE;
        int preferred = 0;
        int ambiguous = 0;
        for (int place = 0; place < text.forms.size(); place++) {
            ambiguous += canBe(language, text.forms.get(place)).size() > 1 ? 1 : 0;
            int use = useIn(text, language, place);
            if (use != NONE) {
                uses++;
                preferred += terms.get(use).state == PREFERRED ? 1 : 0;
                if (terms.get(use).state == BANNED) {
                    banned++;
                    first = first == NONE ? place : first;
                }
            }
        }
        int consistency = uses == 0 ? 100 : preferred * 100 / uses;
        return new int[] {text.forms.size(), text.state, uses, banned, first, consistency, ambiguous}[what];
    }

    int agreement(int document) {
        index(isIn(document, 0, documents.size() - 1));
        Set<Integer> all = new HashSet<>();
        List<Set<Integer>> each = new ArrayList<>();
        for (int language = 0; language < 3; language++) {
            Text text = documents.get(document).get(language);
            Set<Integer> here = new HashSet<>();
            for (int use : usesOf(text, language)) {
                if (use != NONE) {
                    here.add(terms.get(use).concept);
                }
            }
            all.addAll(here);
            if (!text.forms.isEmpty()) {
                each.add(here);
            }
        }
        int common = 0;
        for (int concept : all) {
            boolean isEverywhere = true;
            for (Set<Integer> here : each) {
                isEverywhere &= here.contains(concept);
            }
            common += isEverywhere ? 1 : 0;
        }
        return all.isEmpty() ? 100 : common * 100 / all.size();
    }

    private int passFreely(int days) {
        int reopened = 0;
        for (int i = 0; i < days; i++) {
            day++;
            reopened += endOfChange();
        }
        return reopened;
    }

    int pass(int days) {
        argument(isIn(days, 1, 40));
        state(day + days <= 199);
        return passFreely(days);
    }

    int many(int what) {
        argument(isIn(what, 0, 12));
        int[] answers = new int[13];
        answers[0] = domains.size();
        Set<Integer> owners = new HashSet<>();
        for (Term term : terms) {
            owners.add(term.concept);
            answers[3 + term.state]++;
        }
        answers[1] = owners.size();
        answers[2] = terms.size();
        answers[7] = documents.size();
        for (List<Text> document : documents) {
            for (Text text : document) {
                answers[8 + text.state] += text.forms.isEmpty() ? 0 : 1;
            }
        }
        for (int use : allUses()) {
            answers[11] += use == NONE ? 0 : 1;
        }
        answers[12] = day;
        return answers[what];
    }

    double meanConsistency() {
        double sum = 0;
        int count = 0;
        for (int document = 0; document < documents.size(); document++) {
            for (int language = 0; language < 3; language++) {
                if (ofText(document, language, 0) > 0) {
                    sum += ofText(document, language, 5);
                    count++;
                }
            }
        }
        return count == 0 ? 0 : sum / count;
    }

    int reopenedBy(int term) {
        int state = termAt(term).state;
        return state == ADMITTED || state == PREFERRED ? copy().ban(term, 0) : 0;
    }

    int reopenedIn(int days) {
        argument(isIn(days, 1, 40));
        return copy().passFreely(days);
    }

    int changedBy(int one, int other) {
        conceptAt(one);
        conceptAt(other);
        argument(one != other);
        if (!canJoin(one, other)) {
            return NONE;
        }
        PlainHouse joined = copy();
        joined.join(one, other);
        List<Integer> before = allUses();
        List<Integer> after = joined.allUses();
        int changed = 0;
        for (int i = 0; i < before.size(); i++) {
            changed += before.get(i).equals(after.get(i)) ? 0 : 1;
        }
        return changed;
    }

    int formFor(int document, int language, int place, int term) {
        Text text = textAt(document, language);
        index(isIn(place, 0, Math.min(text.forms.size(), 11)));
        termAt(term);
        for (int form = 0; form < 80; form++) {
            Text tried = new Text();
            tried.forms.addAll(text.forms);
            put(tried, place, form);
            if (useIn(tried, language, place) == term) {
                return form;
            }
        }
        return NONE;
    }

    long digest() {
        long d = 58116;
        for (int what = 0; what <= 12; what++) {
            d = d * 31 + many(what);
        }
        for (int term = 0; term < terms.size(); term++) {
            for (int what = 0; what <= 7; what++) {
                d = d * 31 + ofTerm(term, what);
            }
            d = d * 31 + reopenedBy(term);
        }
        for (int concept = 0; concept < domains.size(); concept++) {
            for (int what = 0; what <= 6; what++) {
                d = d * 31 + ofConcept(concept, what);
            }
        }
        for (int document = 0; document < documents.size(); document++) {
            for (int language = 0; language < 3; language++) {
                for (int what = 0; what <= 6; what++) {
                    d = d * 31 + ofText(document, language, what);
                }
                for (int use : usesOf(documents.get(document).get(language), language)) {
                    d = d * 31 + use;
                }
            }
        }
        for (int document = 0; document < documents.size(); document++) {
            d = d * 31 + agreement(document);
        }
        return d * 31 + reopenedIn(10);
    }
}
