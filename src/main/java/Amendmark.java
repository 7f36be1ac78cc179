import java.util.ArrayList;

/** A code of laws as it stood on each day, and as it was known on each day. */
public final class Amendmark {
    public static final int NONE = -1;
    public static final int ENACT = 0, INSERT = 1, SUBSTITUTE = 2, OMIT = 3, RENUMBER = 4, MOVE = 5, REPEAL = 6, AMEND = 7;
    public static final int ON_DAY = 0, BY_ORDER = 1, WITH = 2;
    public static final int IDLE = 0, DONE = 1, FAILED = 2;

    private static final int LAST_DAY = 5000;
    private static final int LONGEST_PASS = 500;
    private static final int MOST_ACTS = 10;
    private static final int MOST_INSTRUCTIONS = 40;
    private static final int MOST_PROVISIONS = 20;
    private static final int MOST_WORDS = 12;
    private static final int MOST_TOLD = 4;
    private static final int FIRST_FOLLOWING = 100, FIRST_FROZEN = 120, LAST_WORD = 139;
    private static final int LAST_TERRITORY = 2, ALL_TERRITORIES = 7;
    private static final int LAST_NUMBER = 99, LAST_LETTERS = 728;
    private static final int SECOND_LETTER = 27, NUMBER_PLACE = 1000;

    private final ArrayList<Instruction> instructions = new ArrayList<Instruction>();
    private final View view = new View();
    private final View frozen = new View();
    private Instruction next = new Instruction(new Terms(ON_DAY, 0, ALL_TERRITORIES, NONE));
    private int today = 0;
    private int acts = 0;
    private int lastActDay = NONE;
    private int provisions = 0;

    public Amendmark() {
    }

    // ---- days, acts

    public int pass(int days) throws IllegalArgumentException, IllegalStateException {
        if (days < 1 || days > LONGEST_PASS) {
            throw new IllegalArgumentException("days is out of range");
        }
        if (today + days > LAST_DAY) {
            throw new IllegalStateException("the days end");
        }
        today += days;
        return today;
    }

    public int act() throws IllegalStateException {
        if (acts >= MOST_ACTS) {
            throw new IllegalStateException("no more acts");
        }
        lastActDay = today;
        acts++;
        return acts - 1;
    }

    public void terms(int how, int what, int territories, int sunset) throws IndexOutOfBoundsException, IllegalArgumentException {
        if (how == WITH) {
            needInstruction(what);
        }
        if (how < ON_DAY || how > WITH) {
            throw new IllegalArgumentException("how is out of range");
        }
        if (how == ON_DAY) {
            needDay(what);
        }
        if (territories < 1 || territories > ALL_TERRITORIES) {
            throw new IllegalArgumentException("territories is out of range");
        }
        if (sunset != NONE) {
            needDay(sunset);
        }
        next.terms = new Terms(how, what, territories, sunset);
    }

    public int word(int word, boolean isNew) throws IllegalArgumentException, IllegalStateException {
        if (word < 0 || word > LAST_WORD) {
            throw new IllegalArgumentException("word is out of range");
        }
        Phrase phrase = isNew ? next.fresh : next.searched;
        if (!phrase.append(word)) {
            throw new IllegalStateException("no more words");
        }
        return phrase.count;
    }

    public int enact(int in, int number, int letters) throws IndexOutOfBoundsException, IllegalArgumentException, IllegalStateException {
        needProvisionOrTop(in);
        needLabel(number, letters);
        needRoomInAct();
        if (provisions >= MOST_PROVISIONS) {
            throw new IllegalStateException("no more provisions");
        }
        if (next.searched.count > 0) {
            throw new IllegalStateException("an ENACT searches no words");
        }
        next.target = in;
        next.label = joinLabel(number, letters);
        add(ENACT, provisions);
        provisions++;
        view.build(instructions);
        return provisions - 1;
    }

    public int instruct(int kind, int provision, int first, int letters) throws IndexOutOfBoundsException, IllegalArgumentException, IllegalStateException {
        if (kind == AMEND) {
            needInstruction(provision);
        } else {
            needProvision(provision);
        }
        if (kind == MOVE) {
            needProvisionOrTop(first);
        }
        if (kind < INSERT || kind > AMEND) {
            throw new IllegalArgumentException("kind is out of range");
        }
        if (kind == RENUMBER) {
            needLabel(first, letters);
        }
        needRoomInAct();
        if (!next.hasWordsFor(kind)) {
            throw new IllegalStateException("the words are not those of the kind");
        }
        if (kind == MOVE) {
            next.target = first;
        }
        if (kind == RENUMBER) {
            next.label = joinLabel(first, letters);
        }
        add(kind, provision);
        view.build(instructions);
        return instructions.size() - 1;
    }

    public void order(int instruction, int day) throws IndexOutOfBoundsException, IllegalArgumentException, IllegalStateException {
        Instruction ordered = needInstruction(instruction);
        needDay(day);
        if (ordered.terms.how != BY_ORDER || ordered.start.isGiven()) {
            throw new IllegalStateException("it does not wait for an order");
        }
        ordered.start.give(today, day, day);
        view.build(instructions);
    }

    public void strike(int instruction, int day) throws IndexOutOfBoundsException, IllegalArgumentException, IllegalStateException {
        Instruction struck = needInstruction(instruction);
        needDay(day);
        if (struck.voiding.isGiven()) {
            throw new IllegalStateException("it was struck down");
        }
        struck.voiding.give(today, day, LAST_DAY);
        view.build(instructions);
    }

    public void suspend(int instruction, int from, int to) throws IndexOutOfBoundsException, IllegalArgumentException, IllegalStateException {
        Instruction suspended = needInstruction(instruction);
        needDay(from);
        needDay(to);
        if (to < from) {
            throw new IllegalArgumentException("to is ahead of from");
        }
        if (suspended.pause.isGiven()) {
            throw new IllegalStateException("it was suspended");
        }
        suspended.pause.give(today, from, to);
        view.build(instructions);
    }

    // ---- views

    public int look(int day, int known, int territory) throws IllegalArgumentException {
        needDay(day);
        if (known < 0 || known > today) {
            throw new IllegalArgumentException("known is out of range");
        }
        if (territory < 0 || territory > LAST_TERRITORY) {
            throw new IllegalArgumentException("territory is out of range");
        }
        view.turnTo(day, known, territory);
        view.build(instructions);
        return view.listedCount;
    }

    public int provisionAt(int place) throws IndexOutOfBoundsException {
        if (place < 0) {
            throw new IndexOutOfBoundsException("there is no such place");
        }
        return view.listedAt(place);
    }

    public int label(int provision) throws IndexOutOfBoundsException {
        needProvision(provision);
        return view.labelOf(provision);
    }

    public int parent(int provision) throws IndexOutOfBoundsException {
        needProvision(provision);
        return view.isThere(provision) ? view.outerOf(provision) : NONE;
    }

    public int words(int provision) throws IndexOutOfBoundsException {
        needProvision(provision);
        return view.countOf(provision);
    }

    public int wordAt(int provision, int place) throws IndexOutOfBoundsException {
        needWord(provision, place);
        return view.readAt(provision, place);
    }

    public int wordAnew(int provision, int place) throws IndexOutOfBoundsException {
        needProvision(provision);
        if (place < 0) {
            throw new IndexOutOfBoundsException("there is no such place");
        }
        return view.findAnew(provision, place);
    }

    public int origin(int provision, int place) throws IndexOutOfBoundsException {
        needWord(provision, place);
        return view.sourceAt(provision, place);
    }

    public int refers(int provision, int place) throws IndexOutOfBoundsException {
        needWord(provision, place);
        int word = view.readAt(provision, place);
        if (word < FIRST_FOLLOWING) {
            return NONE;
        }
        if (word < FIRST_FROZEN) {
            return view.labelOf(word - FIRST_FOLLOWING);
        }
        int frozenDay = view.beginningOf(view.sourceAt(provision, place));
        frozen.turnTo(frozenDay, view.known, view.territory);
        frozen.build(instructions);
        return frozen.labelOf(word - FIRST_FROZEN);
    }

    public int state(int instruction) throws IndexOutOfBoundsException {
        needInstruction(instruction);
        return view.stateOf(instruction);
    }

    public int commences(int instruction) throws IndexOutOfBoundsException {
        needInstruction(instruction);
        return view.beginningOf(instruction);
    }

    public int conflicts() {
        return view.countConflicts();
    }

    public long print() {
        return view.fold();
    }

    // ---- what the calls need

    private Instruction needInstruction(int instruction) {
        if (instruction < 0 || instruction >= instructions.size()) {
            throw new IndexOutOfBoundsException("there is no such instruction");
        }
        return instructions.get(instruction);
    }

    private void needProvision(int provision) {
        if (provision < 0 || provision >= provisions) {
            throw new IndexOutOfBoundsException("there is no such provision");
        }
    }

    private void needProvisionOrTop(int provision) {
        if (provision != NONE) {
            needProvision(provision);
        }
    }

    private void needWord(int provision, int place) {
        needProvision(provision);
        if (place < 0 || place >= view.countOf(provision)) {
            throw new IndexOutOfBoundsException("there is no such place");
        }
    }

    private static void needDay(int day) {
        if (day < 0 || day > LAST_DAY) {
            throw new IllegalArgumentException("a day is out of range");
        }
    }

    private static void needLabel(int number, int letters) {
        if (number < 1 || number > LAST_NUMBER) {
            throw new IllegalArgumentException("number is out of range");
        }
        if (letters < 0 || letters > LAST_LETTERS) {
            throw new IllegalArgumentException("letters is out of range");
        }
        if (letters > 0 && letters % SECOND_LETTER == 0) {
            throw new IllegalArgumentException("the second letter is none");
        }
    }

    private void needRoomInAct() {
        if (lastActDay != today) {
            throw new IllegalStateException("no act was made today");
        }
        if (instructions.size() >= MOST_INSTRUCTIONS) {
            throw new IllegalStateException("no more instructions");
        }
    }

    private static int joinLabel(int number, int letters) {
        return NUMBER_PLACE * number + letters;
    }

    private void add(int kind, int subject) {
        next.number = instructions.size();
        next.act = acts - 1;
        next.made = today;
        next.kind = kind;
        next.subject = subject;
        instructions.add(next);
        next = new Instruction(next.terms);
    }

    /** How instructions commence, in which territories, and until when. */
    private static final class Terms {
        final int how;
        final int what;
        final int territories;
        final int sunset;

        Terms(int how, int what, int territories, int sunset) {
            this.how = how;
            this.what = what;
            this.territories = territories;
            this.sunset = sunset;
        }

        boolean reach(int territory) {
            return ((territories >> territory) & 1) == 1;
        }

        boolean endBy(int day) {
            return sunset != NONE && sunset <= day;
        }
    }

    /** Something made for an instruction, once, on one day, about the days from one to another. */
    private static final class Notice {
        int made = NONE;
        int from = NONE;
        int to = NONE;

        void give(int made, int from, int to) {
            this.made = made;
            this.from = from;
            this.to = to;
        }

        boolean isGiven() {
            return made != NONE;
        }

        boolean isKnownOn(int known) {
            return isGiven() && made <= known;
        }

        boolean covers(int day, int known) {
            return isKnownOn(known) && from <= day && day <= to;
        }
    }

    /** The searched words of an instruction, or its new ones. */
    private static final class Phrase {
        final int[] row = new int[MOST_TOLD];
        int count = 0;

        boolean append(int word) {
            if (count >= row.length) {
                return false;
            }
            row[count] = word;
            count++;
            return true;
        }
    }

    private static final class Instruction {
        int number = NONE;
        int act = NONE;
        int made = NONE;
        int kind = NONE;
        /** The provision; of an AMEND the instruction. */
        int subject = NONE;
        /** In which provision an ENACT or a MOVE puts it. */
        int target = NONE;
        /** Which label an ENACT or a RENUMBER gives it. */
        int label = NONE;
        Terms terms;
        final Phrase searched = new Phrase();
        final Phrase fresh = new Phrase();
        final Notice start = new Notice();
        final Notice voiding = new Notice();
        final Notice pause = new Notice();

        Instruction(Terms terms) {
            this.terms = terms;
        }

        boolean hasWordsFor(int kind) {
            switch (kind) {
                case INSERT:
                    return fresh.count > 0;
                case SUBSTITUTE:
                    return searched.count > 0;
                case OMIT:
                    return searched.count > 0 && fresh.count == 0;
                case AMEND:
                    return searched.count == 0;
                default:
                    return searched.count == 0 && fresh.count == 0;
            }
        }

        boolean isOf(int provision) {
            return kind != AMEND && subject == provision;
        }

        boolean mayConflictWith(Instruction other) {
            return act != other.act && kind != ENACT && other.kind != ENACT
                && kind != AMEND && other.isOf(subject);
        }
    }

    /** The words of a provision, each with the instruction that put it in. */
    private static final class Text {
        private final int[] words = new int[MOST_WORDS];
        private final int[] sources = new int[MOST_WORDS];
        private int count = 0;

        int readAt(int place) {
            return place >= 0 && place < count && place < words.length ? words[place] : NONE;
        }

        int sourceAt(int place) {
            return place >= 0 && place < count && place < sources.length ? sources[place] : NONE;
        }

        boolean begin(Phrase fresh, int source) {
            count = 0;
            return splice(0, 0, fresh, source);
        }

        boolean insert(Phrase searched, Phrase fresh, int source) {
            if (searched.count == 0) {
                return splice(count, 0, fresh, source);
            }
            int at = find(searched, 0);
            return at != NONE && splice(at + searched.count, 0, fresh, source);
        }

        boolean substitute(Phrase searched, Phrase fresh, int source) {
            int times = 0;
            int at = find(searched, 0);
            for (int k = 0; k < MOST_WORDS && at != NONE; k++) {
                times++;
                at = find(searched, at + searched.count);
            }
            // Measured ahead, for one that fails must not have begun.
            if (times == 0 || count + times * (fresh.count - searched.count) > MOST_WORDS) {
                return false;
            }
            int from = 0;
            for (int k = 0; k < times; k++) {
                at = find(searched, from);
                splice(at, searched.count, fresh, source);
                // What was put in is not searched again.
                from = at + fresh.count;
            }
            return true;
        }

        boolean omit(Phrase searched) {
            int at = find(searched, 0);
            if (at == NONE) {
                return false;
            }
            count = at;
            return true;
        }

        private int find(Phrase searched, int from) {
            for (int at = from; at + searched.count <= count; at++) {
                if (holdsAt(searched, at)) {
                    return at;
                }
            }
            return NONE;
        }

        private boolean holdsAt(Phrase searched, int at) {
            if (at < 0 || at + searched.count > words.length) {
                return false;
            }
            for (int k = 0; k < searched.count; k++) {
                if (words[at + k] != searched.row[k]) {
                    return false;
                }
            }
            return true;
        }

        /** Puts new words in the place of as many as go; false, and nothing changes, if they have no room. */
        private boolean splice(int at, int gone, Phrase fresh, int source) {
            int tail = count - at - gone;
            int rest = at + fresh.count;
            if (at < 0 || gone < 0 || tail < 0 || rest + tail > MOST_WORDS) {
                return false;
            }
            System.arraycopy(words, at + gone, words, rest, tail);
            System.arraycopy(sources, at + gone, sources, rest, tail);
            for (int k = 0; k < fresh.count; k++) {
                words[at + k] = fresh.row[k];
                sources[at + k] = source;
            }
            count = rest + tail;
            return true;
        }
    }

    /** The code on a day, by what is known on a day, in a territory. */
    private static final class View {
        private final ArrayList<Instruction> turns = new ArrayList<Instruction>();
        private final int[] beginnings = new int[MOST_INSTRUCTIONS];
        private final int[] states = new int[MOST_INSTRUCTIONS];
        /** The new words that an AMEND told of an instruction; null if it has its own. */
        private final Phrase[] told = new Phrase[MOST_INSTRUCTIONS];
        private final int[] labels = new int[MOST_PROVISIONS];
        private final int[] outers = new int[MOST_PROVISIONS];
        private final Text[] texts = new Text[MOST_PROVISIONS];
        private final Text anew = new Text();
        private final int[] listed = new int[MOST_PROVISIONS];
        private int listedCount = 0;
        private int day = 0;
        private int known = 0;
        private int territory = 0;

        View() {
            for (int p = 0; p < texts.length; p++) {
                texts[p] = new Text();
            }
            clear();
        }

        void turnTo(int day, int known, int territory) {
            this.day = day;
            this.known = known;
            this.territory = territory;
        }

        /** Does all instructions that are in effect, from nothing. */
        void build(ArrayList<Instruction> all) {
            clear();
            for (int i = 0; i < all.size() && i < MOST_INSTRUCTIONS; i++) {
                Instruction one = all.get(i);
                beginnings[i] = findBeginning(one);
                if (isInEffect(one, beginnings[i])) {
                    takeTurn(one, beginnings[i]);
                }
            }
            for (int k = 0; k < turns.size(); k++) {
                Instruction one = turns.get(k);
                boolean isDone = carryOut(one);
                if (one.number >= 0 && one.number < states.length) {
                    states[one.number] = isDone ? DONE : FAILED;
                }
            }
            listInOrder();
        }

        private void clear() {
            turns.clear();
            listedCount = 0;
            for (int i = 0; i < MOST_INSTRUCTIONS; i++) {
                beginnings[i] = NONE;
                states[i] = IDLE;
                told[i] = null;
            }
            for (int p = 0; p < MOST_PROVISIONS; p++) {
                labels[p] = NONE;
                outers[p] = NONE;
            }
        }

        private int findBeginning(Instruction one) {
            if (one.made > known) {
                return NONE;
            }
            switch (one.terms.how) {
                case ON_DAY:
                    return one.terms.what;
                case BY_ORDER:
                    return one.start.isKnownOn(known) ? one.start.from : NONE;
                default:
                    // The other one is earlier, so its beginning has been found.
                    return beginningOf(one.terms.what);
            }
        }

        private boolean isInEffect(Instruction one, int beginning) {
            return beginning != NONE && beginning <= day
                && one.terms.reach(territory) && !one.terms.endBy(day)
                && !one.voiding.covers(day, known) && !one.pause.covers(day, known);
        }

        private void takeTurn(Instruction one, int beginning) {
            int turn = turns.size();
            while (turn > 0 && beginningOf(turns.get(turn - 1).number) > beginning) {
                turn--;
            }
            turns.add(turn, one);
        }

        private boolean carryOut(Instruction one) {
            switch (one.kind) {
                case ENACT:
                    return setUp(one);
                case RENUMBER:
                    return renumber(one);
                case MOVE:
                    return shift(one);
                case REPEAL:
                    return remove(one.subject);
                case AMEND:
                    return retell(one);
                default:
                    return isThere(one.subject) && reword(one, texts[one.subject]);
            }
        }

        private boolean setUp(Instruction one) {
            int p = one.subject;
            if (p < 0 || p >= MOST_PROVISIONS || !mayHold(one.target, one.label, p)) {
                return false;
            }
            labels[p] = one.label;
            outers[p] = one.target;
            return reword(one, texts[p]);
        }

        private boolean renumber(Instruction one) {
            int p = one.subject;
            if (!isThere(p) || !mayHold(outerOf(p), one.label, p)) {
                return false;
            }
            labels[p] = one.label;
            return true;
        }

        private boolean shift(Instruction one) {
            int p = one.subject;
            if (!isThere(p) || isWithin(one.target, p) || !mayHold(one.target, labelOf(p), p)) {
                return false;
            }
            outers[p] = one.target;
            return true;
        }

        private boolean remove(int provision) {
            if (!isThere(provision)) {
                return false;
            }
            for (int p = 0; p < MOST_PROVISIONS; p++) {
                if (isWithin(p, provision)) {
                    labels[p] = NONE;
                }
            }
            return true;
        }

        private boolean retell(Instruction one) {
            int i = one.subject;
            if (i < 0 || i >= MOST_INSTRUCTIONS || states[i] != IDLE) {
                return false;
            }
            told[i] = one.fresh;
            return true;
        }

        /** Does to a text what an instruction does to words; the other kinds leave it. */
        private boolean reword(Instruction one, Text text) {
            Phrase fresh = freshOf(one);
            switch (one.kind) {
                case ENACT:
                    return text.begin(fresh, one.number);
                case INSERT:
                    return text.insert(one.searched, fresh, one.number);
                case SUBSTITUTE:
                    return text.substitute(one.searched, fresh, one.number);
                case OMIT:
                    return text.omit(one.searched);
                default:
                    return true;
            }
        }

        private Phrase freshOf(Instruction one) {
            int i = one.number;
            Phrase fresh = i >= 0 && i < told.length ? told[i] : null;
            return fresh != null ? fresh : one.fresh;
        }

        /** Whether the provision, or the top, is there, and has no other one with the label. */
        private boolean mayHold(int outer, int label, int provision) {
            if (outer != NONE && !isThere(outer)) {
                return false;
            }
            for (int p = 0; p < MOST_PROVISIONS; p++) {
                if (p != provision && labels[p] == label && outers[p] == outer) {
                    return false;
                }
            }
            return true;
        }

        /** Whether one is the other or in it, however deep; also while the other is being removed. */
        private boolean isWithin(int provision, int outer) {
            int at = provision;
            for (int k = 0; k < MOST_PROVISIONS && at != NONE; k++) {
                if (at == outer) {
                    return true;
                }
                at = outerOf(at);
            }
            return false;
        }

        private void listInOrder() {
            int outer = NONE;
            int behind = NONE;
            // Each provision is gone into once and left once.
            for (int k = 0; k <= 2 * MOST_PROVISIONS; k++) {
                int inner = innerBehind(outer, behind);
                if (inner != NONE && listedCount < listed.length) {
                    listed[listedCount] = inner;
                    listedCount++;
                    outer = inner;
                    behind = NONE;
                } else if (outer != NONE) {
                    behind = rank(labelOf(outer));
                    outer = outerOf(outer);
                } else {
                    return;
                }
            }
        }

        /** The first one in a provision, or at the top, with a label behind the rank; NONE if there is none. */
        private int innerBehind(int outer, int behind) {
            int first = NONE;
            int least = NONE;
            for (int p = 0; p < MOST_PROVISIONS; p++) {
                int rank = rank(labels[p]);
                if (labels[p] != NONE && outers[p] == outer && rank > behind && (first == NONE || rank < least)) {
                    first = p;
                    least = rank;
                }
            }
            return first;
        }

        /** Puts labels in the order of a book: 5a ahead of 5aa, and both ahead of 5b. */
        private static int rank(int label) {
            int letters = label % NUMBER_PLACE;
            return label - letters + (letters < SECOND_LETTER ? letters * SECOND_LETTER : letters);
        }

        boolean isThere(int provision) {
            return labelOf(provision) != NONE;
        }

        int labelOf(int provision) {
            return provision >= 0 && provision < labels.length ? labels[provision] : NONE;
        }

        int outerOf(int provision) {
            return provision >= 0 && provision < outers.length ? outers[provision] : NONE;
        }

        int countOf(int provision) {
            return isThere(provision) ? texts[provision].count : NONE;
        }

        int readAt(int provision, int place) {
            return isThere(provision) ? texts[provision].readAt(place) : NONE;
        }

        int sourceAt(int provision, int place) {
            return isThere(provision) ? texts[provision].sourceAt(place) : NONE;
        }

        int listedAt(int place) {
            return place >= 0 && place < listedCount && place < listed.length ? listed[place] : NONE;
        }

        int stateOf(int instruction) {
            return instruction >= 0 && instruction < states.length ? states[instruction] : IDLE;
        }

        int beginningOf(int instruction) {
            return instruction >= 0 && instruction < beginnings.length ? beginnings[instruction] : NONE;
        }

        /** Does the instructions of one provision alone once more; its ENACT, always among them, begins the text. */
        int findAnew(int provision, int place) {
            if (!isThere(provision)) {
                return NONE;
            }
            for (int k = 0; k < turns.size(); k++) {
                Instruction one = turns.get(k);
                if (one.isOf(provision) && stateOf(one.number) == DONE) {
                    reword(one, anew);
                }
            }
            return anew.readAt(place);
        }

        int countConflicts() {
            int count = 0;
            for (int k = 0; k < turns.size(); k++) {
                for (int m = 0; m < k; m++) {
                    if (conflict(turns.get(k), turns.get(m))) {
                        count++;
                    }
                }
            }
            return count;
        }

        private boolean conflict(Instruction one, Instruction other) {
            return one.mayConflictWith(other)
                && stateOf(one.number) == DONE && stateOf(other.number) == DONE
                && beginningOf(one.number) == beginningOf(other.number);
        }

        long fold() {
            long print = 11;
            for (int place = 0; place < listedCount && place < listed.length; place++) {
                int p = listed[place];
                int count = countOf(p);
                print = 31 * print + p;
                print = 31 * print + labelOf(p);
                print = 31 * print + count;
                for (int k = 0; k < count && k < MOST_WORDS; k++) {
                    print = 31 * print + readAt(p, k);
                    print = 31 * print + sourceAt(p, k);
                }
            }
            return print;
        }
    }
}
