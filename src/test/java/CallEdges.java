/** The edges that the promises 1 to 10 name: the calls by which days go by and acts are made. */
final class CallEdges {
    private static final int NONE = Amendmark.NONE;
    private static final Class<?> INDEX = IndexOutOfBoundsException.class;
    private static final Class<?> ARGUMENT = IllegalArgumentException.class;
    private static final Class<?> STATE = IllegalStateException.class;
    private static final int[] NO_SECOND_LETTER = {27, 54, 81, 351, 675, 702};

    private CallEdges() {
    }

    static void run() {
        newObject();
        pass();
        act();
        terms();
        termsThrows();
        word();
        enact();
        enactThrows();
        enactState();
        instruct();
        instructThrows();
        instructState();
        order();
        strike();
        suspend();
    }

    private static void newObject() {
        Doc.open("Promise 1: A new object");
        Doc.says("Begins on the day 0, without acts;");
        Amendmark law = new Amendmark();
        Check.state("without acts", () -> law.enact(NONE, 1, 0));
        Check.argument("on the day 0", () -> law.look(0, 1, 0));
        Check.same("the first act", law.act(), 0);
        Check.index("without instructions", () -> law.state(0));
        Check.index("without provisions", () -> law.label(0));
        Doc.says("the view is of the day 0, known on the day 0, of the territory 0.");
        Check.same("nothing in it", law.print(), 11);
        Book book = Book.withText(1);
        int[] days = {0, 0, 0, 1};
        int[] sets = {1, 2, 4, 7};
        for (int k = 0; k < 4; k++) {
            book.terms(Amendmark.ON_DAY, days[k], sets[k], NONE);
            book.enact(NONE, 2 + k);
        }
        book.tomorrow();
        book.terms(Amendmark.ON_DAY, 0, 7, NONE);
        book.enact(NONE, 9);
        // No look has been made.
        book.stands("ddiiii");
        book.lists("0 1");
        Check.same("commences, as known on the day 0", book.law.commences(5), NONE);
    }

    private static Amendmark onDay(int day) {
        Amendmark law = new Amendmark();
        for (int k = 0; k < day / 500; k++) {
            law.pass(500);
        }
        if (day % 500 > 0) {
            law.pass(day % 500);
        }
        return law;
    }

    private static void pass() {
        Doc.open("Promise 2: pass");
        Doc.tells("Lets days go by.");
        Doc.says("- `days`: 1 to 500");
        Check.range("days", 1, 500, ARGUMENT, days -> new Amendmark().pass(days));
        Doc.says("Throws `IllegalArgumentException` if days is out of range");
        Amendmark last = onDay(5000);
        for (int days : new int[] {0, -1, 501, -5000, 5000, 5001, Integer.MIN_VALUE, Integer.MAX_VALUE}) {
            Check.argument(days + " days, at first", () -> new Amendmark().pass(days));
            Check.argument(days + " days, at last", () -> last.pass(days));
        }
        Doc.says("Returns today.");
        Amendmark law = new Amendmark();
        Check.same("a day", law.pass(1), 1);
        Check.same("two more", law.pass(2), 3);
        Check.same("500 more", law.pass(500), 503);
        Check.same("known today", law.look(0, 503, 0), 0);
        Check.argument("known tomorrow", () -> law.look(0, 504, 0));
        Doc.says("Throws `IllegalStateException` if today would be above 5000");
        for (int days : new int[] {1, 2, 250, 499, 500}) {
            Amendmark late = onDay(5000 - days);
            if (days < 500) {
                Check.state("a day too many", () -> late.pass(days + 1));
            }
            Check.state("500 days of the day 4501", () -> onDay(4501).pass(500));
            Check.same("up to the last day", late.pass(days), 5000);
            Check.state("a day behind it", () -> late.pass(1));
            Check.state("500 days behind it", () -> late.pass(500));
            Check.same("it stays the last day", late.look(0, 5000, 0), 0);
        }
    }

    private static void act() {
        Doc.open("Promise 3: act");
        Doc.says("Makes an act today.");
        Book book = new Book();
        book.law.pass(7);
        Check.state("no act today", () -> book.law.enact(NONE, 1, 0));
        book.law.act();
        Check.same("an act today", book.law.enact(NONE, 1, 0), 0);
        Check.same("not known yesterday", book.law.look(0, 6, 0), 0);
        Check.same("known today", book.law.look(0, 7, 0), 1);
        Doc.says("Returns its number.");
        Check.same("the next one", book.law.act(), 1);
        book.law.pass(1);
        Check.same("one on another day", book.law.act(), 2);
        Doc.says("Throws `IllegalStateException` if there are 10");
        for (int k = 3; k < 10; k++) {
            Check.same("an act", book.law.act(), k);
        }
        Check.state("one too many", book.law::act);
        Check.same("the last one is that of today", book.law.enact(NONE, 2, 0), 1);
        book.law.pass(1);
        Check.state("one too many on another day", book.law::act);
        Check.state("it is none", () -> book.law.enact(NONE, 3, 0));
    }

    private static void terms() {
        Doc.open("Promise 4: terms");
        Doc.says("Tells how the instructions that are added from now on commence, in which territories, and until when;");
        Book book = Book.withText(1);
        book.terms(Amendmark.ON_DAY, 3, 2, 5);
        book.terms(Amendmark.ON_DAY, 4, 6, 9);
        book.enact(NONE, 2);
        book.renumber(0, 7);
        book.law.pass(1);
        book.law.act();
        // They stay, also for another act, and do not change those that were added ahead.
        book.repeal(1);
        String[] due = {"diii", "dddd", "dddd", "diii"};
        int[] days = {3, 4, 8, 9};
        for (int k = 0; k < 4; k++) {
            book.law.look(days[k], 1, 2);
            book.stands(due[k]);
            book.law.look(days[k], 1, 0);
            book.stands("diii");
        }
        Doc.says("at first on the day 0, in all, and without end.");
        for (int t = 0; t < 3; t++) {
            for (int day : new int[] {0, 5000}) {
                Check.same("on " + day + " in " + t, Book.withText(1).law.look(day, 0, t), 1);
            }
        }
        Doc.says("- `how`: ON_DAY to WITH");
        Check.range("how", 0, 2, ARGUMENT, how -> Book.withText(1).terms(how, 0, 7, NONE));
        Doc.says("- `what`: the day, 0 to 5000; for BY_ORDER it does not matter; the instruction");
        Check.range("the day", 0, 5000, ARGUMENT, day -> Book.withText(1).terms(Amendmark.ON_DAY, day, 7, NONE));
        for (int what : new int[] {NONE, 5001, Integer.MIN_VALUE, Integer.MAX_VALUE}) {
            Check.refuses("BY_ORDER " + what, () -> Book.withText(1).terms(Amendmark.BY_ORDER, what, 7, NONE), null);
        }
        Check.range("the instruction", 0, 0, INDEX, one -> Book.withText(1).terms(Amendmark.WITH, one, 7, NONE));
        Doc.says("- `territories`: bit t for the territory t, 1 to 7");
        Check.range("territories", 1, 7, ARGUMENT, set -> Book.withText(1).terms(Amendmark.ON_DAY, 0, set, NONE));
        for (int t = 0; t < 3; t++) {
            Book one = Book.withAct();
            one.terms(Amendmark.ON_DAY, 0, 1 << t, NONE);
            one.enact(NONE, 1);
            Check.same("in " + t, one.law.look(0, 0, t), 1);
            Check.same("in the one behind it", one.law.look(0, 0, (t + 1) % 3), 0);
            Check.same("in the one ahead", one.law.look(0, 0, (t + 2) % 3), 0);
        }
        Doc.says("- `sunset`: 0 to 5000, or NONE");
        // NONE is the one below 0.
        Check.range("sunset", NONE, 5000, ARGUMENT, day -> Book.withText(1).terms(Amendmark.ON_DAY, 0, 7, day));
        Check.refuses("the sunset 0", () -> Book.withText(1).terms(Amendmark.ON_DAY, 0, 7, 0), null);
    }

    private static void termsThrows() {
        Doc.says("Throws `IndexOutOfBoundsException` if how is WITH, and there is no such instruction");
        for (int count = 0; count < 40; count++) {
            Book book = Book.withAct();
            for (int k = 0; k < count; k++) {
                book.say(Book.of(), k == 0 ? Book.of() : Book.of(1));
                int added = k == 0 ? book.law.enact(NONE, 1, 0) : book.law.instruct(Amendmark.INSERT, 0, 0, 0);
                Check.same("an instruction", added, k);
            }
            int first = count;
            Check.index("the first one that is not there", () -> book.terms(Amendmark.WITH, first, 7, NONE));
            Check.index("NONE", () -> book.terms(Amendmark.WITH, NONE, 7, NONE));
            if (count > 0) {
                Check.refuses("the last one", () -> book.terms(Amendmark.WITH, first - 1, 7, NONE), null);
            }
            Check.refuses("ON_DAY, the same number", () -> book.terms(Amendmark.ON_DAY, first, 7, NONE), null);
        }
        Doc.says("Throws `IllegalArgumentException` if how, the day, territories or sunset is out of range");
        int[][] wrong = {{-1, 0, 7, NONE}, {3, 0, 7, NONE}, {0, -1, 7, NONE}, {0, 5001, 7, NONE}, {0, 0, 0, NONE},
            {0, 0, 8, NONE}, {0, 0, -1, NONE}, {0, 0, 7, -2}, {0, 0, 7, 5001}, {1, 0, 0, NONE}, {1, 0, 8, NONE},
            {1, 0, 7, -2}, {1, 0, 7, 5001}, {2, 0, 0, NONE}, {2, 0, 8, NONE}, {2, 0, 7, -2}, {2, 0, 7, 5001}};
        for (int[] row : wrong) {
            Book book = Book.withText(1);
            String what = row[0] + " " + row[1] + " " + row[2] + " " + row[3];
            Check.argument(what, () -> book.terms(row[0], row[1], row[2], row[3]));
        }
    }

    private static void word() {
        Doc.open("Promise 5: word");
        Doc.says("Adds a word to the searched ones, or to the new ones, of the next instruction.");
        Book book = Book.withText(1, 2);
        book.law.word(2, false);
        book.law.word(5, true);
        book.law.word(6, true);
        book.law.instruct(Amendmark.SUBSTITUTE, 0, 0, 0);
        book.reads(0, "1 5 6");
        Doc.says("- `word`: 0 to 139");
        Check.range("a new word", 0, 139, ARGUMENT, word -> new Amendmark().word(word, true));
        Check.range("a searched word", 0, 139, ARGUMENT, word -> new Amendmark().word(word, false));
        Doc.says("Throws `IllegalArgumentException` if word is out of range");
        for (int word : new int[] {-1, 140, 200, Integer.MIN_VALUE, Integer.MAX_VALUE}) {
            Check.argument("a new word " + word, () -> book.law.word(word, true));
            Check.argument("a searched word " + word, () -> book.law.word(word, false));
        }
        Doc.says("Returns how many of these there are then.");
        for (int k = 1; k <= 4; k++) {
            Check.same("new ones", book.law.word(7, true), k);
            Check.same("searched ones", book.law.word(2, false), k);
        }
        Doc.says("Throws `IllegalStateException` if there are 4");
        Check.state("a fifth new one", () -> book.law.word(7, true));
        Check.state("a fifth searched one", () -> book.law.word(7, false));
        book.law.instruct(Amendmark.SUBSTITUTE, 0, 0, 0);
        Check.same("a new one of the next", book.law.word(7, true), 1);
        Check.same("a searched one of the next", book.law.word(7, false), 1);
    }

    private static void enact() {
        Doc.open("Promise 6: enact");
        Doc.says("Adds an ENACT to the last act, with the new words; all words are gone then.");
        Book book = Book.withText(1, 2, 3, 4);
        book.law.act();
        book.enact(NONE, 2, 5);
        book.reads(1, "5");
        Check.same("none is left", book.law.enact(NONE, 3, 0), 2);
        book.reads(2, "");
        book.insert(0, Book.of(), 6);
        Check.same("to the last act, as the one behind it", book.law.conflicts(), 0);
        Doc.says("- `in`: a provision, or NONE for the top");
        Check.range("in", NONE, 0, INDEX, in -> Book.withText(1).law.enact(in, 5, 0));
        Doc.says("- `number`: 1 to 99");
        Check.range("number", 1, 99, ARGUMENT, number -> Book.withAct().law.enact(NONE, number, 0));
        Doc.says("- `letters`: 0 without letters; 1 to 26 for one; 27 times the first one and the second one, together,"
            + " for two, up to 728");
        Check.range("letters", 0, 728, ARGUMENT, letters -> Book.withAct().law.enact(NONE, 1, letters));
        for (int letters : new int[] {1, 26, 28, 53, 55, 701, 703}) {
            Check.refuses("letters " + letters, () -> Book.withAct().law.enact(NONE, 1, letters), null);
        }
        Doc.says("Returns the provision.");
        Book many = Book.withAct();
        for (int p = 0; p < 20; p++) {
            Check.same("the provision", many.enact(NONE, p + 1), p);
            Check.same("its instruction", many.renumber(0, 1), 2 * p + 1);
        }
    }

    private static void enactThrows() {
        Doc.says("Throws `IndexOutOfBoundsException` if in is neither a provision nor NONE");
        Check.index("in the one that would be the first", () -> Book.withAct().law.enact(0, 1, 0));
        Check.index("in the one that would be the second", () -> Book.withText(1).law.enact(1, 1, 0));
        Check.index("in -2", () -> Book.withText(1).law.enact(-2, 1, 0));
        Book later = Book.withAct();
        later.on(9);
        later.enact(NONE, 1);
        Check.refuses("in one that is not there in the view", () -> later.law.enact(0, 1, 0), null);
        Doc.says("Throws `IllegalArgumentException` if number or letters is out of range, or letters tells a second one"
            + " without being above 27, being a multiple of 27");
        for (int number : new int[] {0, -1, 100, Integer.MIN_VALUE, Integer.MAX_VALUE}) {
            Check.argument("the number " + number, () -> Book.withAct().law.enact(NONE, number, 0));
        }
        for (int letters : new int[] {-1, -27, -28, 729, 730, 756, Integer.MIN_VALUE, Integer.MAX_VALUE}) {
            Check.argument("the letters " + letters, () -> Book.withAct().law.enact(NONE, 1, letters));
        }
        for (int letters : NO_SECOND_LETTER) {
            Check.argument("the letters " + letters, () -> Book.withAct().law.enact(NONE, 1, letters));
        }
    }

    private static Book full() {
        Book book = Book.withText(1);
        for (int k = 1; k < 40; k++) {
            book.renumber(0, k);
        }
        return book;
    }

    private static void enactState() {
        Doc.says("Throws `IllegalStateException` if there is no act that was made today, there are 40 instructions"
            + " or 20 provisions, or searched words");
        Check.state("no act", () -> new Amendmark().enact(NONE, 1, 0));
        Book yesterday = Book.withText(1);
        yesterday.law.pass(1);
        Check.state("one of yesterday", () -> yesterday.law.enact(NONE, 2, 0));
        Check.state("40 instructions", () -> full().law.enact(NONE, 50, 0));
        Book twenty = Book.withAct();
        for (int p = 0; p < 20; p++) {
            twenty.enact(NONE, p + 1);
        }
        Check.state("20 provisions", () -> twenty.law.enact(NONE, 21, 0));
        Book searched = Book.withText(1);
        searched.law.word(1, false);
        Check.state("a searched word", () -> searched.law.enact(NONE, 2, 0));
        searched.law.word(2, true);
        Check.state("a searched word and a new one", () -> searched.law.enact(NONE, 2, 0));
    }

    private static void instruct() {
        Doc.open("Promise 7: instruct");
        Doc.says("Adds an instruction of another kind to the last act; all words are gone then.");
        Book book = Book.withText(1);
        book.insert(0, Book.of(), 2);
        book.law.act();
        book.insert(0, Book.of(1), 3);
        Check.same("to the last act", book.law.conflicts(), 1);
        book.say(Book.of(1, 2), Book.of(3));
        Check.same("a SUBSTITUTE", book.law.instruct(Amendmark.SUBSTITUTE, 0, 0, 0), 3);
        Check.state("no new ones are left", () -> book.law.instruct(Amendmark.INSERT, 0, 0, 0));
        Check.state("no searched ones are left", () -> book.law.instruct(Amendmark.OMIT, 0, 0, 0));
        Doc.says("- `kind`: INSERT to AMEND");
        Check.range("kind", Amendmark.INSERT, Amendmark.AMEND, ARGUMENT, CallEdges::ofKind);
        Check.argument("ENACT", () -> ofKind(Amendmark.ENACT));
        Doc.says("- `provision`: the provision; for AMEND the instruction");
        Check.range("the provision", 0, 1, INDEX, p -> withMoreInstructions().repeal(p));
        Check.range("the instruction", 0, 2, INDEX, i -> withMoreInstructions().amend(i));
        Doc.says("- `first`: the number for RENUMBER, the provision or NONE for MOVE; otherwise it does not matter");
        Check.range("the number", 1, 99, ARGUMENT, number -> withMoreInstructions().renumber(0, number));
        Check.range("the provision or NONE", NONE, 1, INDEX, in -> withMoreInstructions().move(0, in));
        Doc.says("- `letters`: for RENUMBER, as told there; otherwise it does not matter");
        Check.range("letters", 0, 728, ARGUMENT, letters -> renumberWith(letters));
        for (int other : new int[] {-2, 0, 27, 100, 729, Integer.MIN_VALUE, Integer.MAX_VALUE}) {
            for (int kind = Amendmark.INSERT; kind <= Amendmark.AMEND; kind++) {
                doesNotMatter(kind, other);
            }
        }
        Doc.says("Returns its number.");
        Book many = Book.withText(1);
        for (int i = 1; i < 40; i++) {
            Check.same("its number", many.renumber(0, i), i);
        }
    }

    /** An instruction of a kind with the words that it uses, of what is numbered 0. */
    private static long ofKind(int kind) {
        return ofKind(kind, kind == Amendmark.MOVE ? NONE : 1, 0);
    }

    private static long ofKind(int kind, int first, int letters) {
        Book book = Book.withText(1);
        book.say(kind == Amendmark.SUBSTITUTE || kind == Amendmark.OMIT ? Book.of(1) : Book.of(),
            kind == Amendmark.INSERT ? Book.of(2) : Book.of());
        return book.law.instruct(kind, 0, first, letters);
    }

    private static void doesNotMatter(int kind, int value) {
        if (kind != Amendmark.RENUMBER && kind != Amendmark.MOVE) {
            Check.refuses("first " + value + " for kind " + kind, () -> ofKind(kind, value, 0), null);
        }
        if (kind != Amendmark.RENUMBER) {
            int first = kind == Amendmark.MOVE ? NONE : 1;
            Check.refuses("letters " + value + " for kind " + kind, () -> ofKind(kind, first, value), null);
        }
    }

    private static long renumberWith(int letters) {
        return Book.withText(1).law.instruct(Amendmark.RENUMBER, 0, 1, letters);
    }

    /** Two provisions and three instructions. */
    private static Book withMoreInstructions() {
        Book book = Book.withText(1);
        book.enact(NONE, 2);
        book.insert(0, Book.of(), 1);
        return book;
    }

    private static void instructThrows() {
        Doc.says("Throws `IndexOutOfBoundsException` if there is no such provision, or, for AMEND, instruction,"
            + " or first is neither for MOVE");
        for (int kind = Amendmark.INSERT; kind <= Amendmark.REPEAL; kind++) {
            int one = kind;
            Check.index("none for kind " + kind, () -> Book.withAct().law.instruct(one, 0, NONE, 0));
            Check.index("2 for kind " + kind, () -> withMoreInstructions().law.instruct(one, 2, NONE, 0));
            Check.index("NONE for kind " + kind, () -> withMoreInstructions().law.instruct(one, NONE, NONE, 0));
        }
        Check.index("no instruction", () -> Book.withAct().amend(0));
        Check.index("the instruction 3", () -> withMoreInstructions().amend(3));
        Check.index("the instruction NONE", () -> withMoreInstructions().amend(NONE));
        Check.index("MOVE to -2", () -> withMoreInstructions().move(0, -2));
        Check.index("MOVE to 2", () -> withMoreInstructions().move(0, 2));
        Doc.says("Throws `IllegalArgumentException` if kind is out of range, or, for RENUMBER, first or letters");
        for (int kind : new int[] {Amendmark.ENACT, NONE, 8, 9, Integer.MIN_VALUE, Integer.MAX_VALUE}) {
            Check.argument("kind " + kind, () -> Book.withText(1).law.instruct(kind, 0, 1, 0));
        }
        for (int number : new int[] {0, -1, 100, Integer.MIN_VALUE, Integer.MAX_VALUE}) {
            Check.argument("the number " + number, () -> Book.withText(1).renumber(0, number));
        }
        for (int letters : new int[] {-1, -27, 729, Integer.MIN_VALUE, Integer.MAX_VALUE}) {
            Check.argument("the letters " + letters, () -> renumberWith(letters));
        }
        for (int letters : NO_SECOND_LETTER) {
            Check.argument("the letters " + letters, () -> renumberWith(letters));
        }
    }

    private static void instructState() {
        Doc.says("Throws `IllegalStateException` if there is no act that was made today, there are 40 instructions,"
            + " SUBSTITUTE or OMIT has no searched words, INSERT no new ones, or there are words that its kind does not use"
            + " (searched ones from RENUMBER to AMEND; new ones for OMIT, RENUMBER, MOVE and REPEAL)");
        Book yesterday = Book.withText(1);
        yesterday.law.pass(1);
        Check.state("an act of yesterday", () -> yesterday.repeal(0));
        Book full = full();
        Check.state("40 instructions", () -> full.renumber(0, 1));
        // For each kind: whether it may have none, searched ones alone, new ones alone, and both.
        boolean[][] due = {{}, {false, false, true, true}, {false, true, false, true}, {false, true, false, false},
            {true, false, false, false}, {true, false, false, false}, {true, false, false, false}, {true, false, true, false}};
        for (int kind = Amendmark.INSERT; kind <= Amendmark.AMEND; kind++) {
            for (int words = 0; words < 4; words++) {
                for (int count = 1; count <= 4; count += 3) {
                    usesWords(kind, (words & 1) * count, (words >> 1) * count, due[kind][words]);
                }
            }
        }
    }

    private static void usesWords(int kind, int searched, int fresh, boolean due) {
        Book book = Book.withText(1);
        book.say(new int[searched], new int[fresh]);
        int first = kind == Amendmark.MOVE ? NONE : 1;
        String what = "kind " + kind + " with " + searched + " searched and " + fresh + " new ones";
        Check.refuses(what, () -> book.law.instruct(kind, 0, first, 0), due ? null : STATE);
    }

    /** One that does not wait for an order, and one that does. */
    private static Book waiting() {
        Book book = Book.withText(1);
        book.withOrder();
        book.enact(NONE, 2);
        return book;
    }

    private static Book bothWaiting() {
        Book book = Book.withAct();
        book.withOrder();
        book.enact(NONE, 1);
        book.enact(NONE, 2);
        return book;
    }

    private static void order() {
        Doc.open("Promise 8: order");
        Doc.says("Makes an order for an instruction today.");
        Book book = waiting();
        book.law.pass(3);
        book.order(1, 0);
        Check.same("not known ahead of it", book.law.look(0, 2, 0), 1);
        Check.same("known today", book.law.look(0, 3, 0), 2);
        Doc.says("- `day`: 0 to 5000");
        Check.range("the day", 0, 5000, ARGUMENT, day -> waiting().order(1, day));
        Doc.says("Throws `IndexOutOfBoundsException` as told");
        Check.range("the instruction", 0, 1, INDEX, i -> bothWaiting().order(i, 0));
        Check.index("none", () -> new Book().order(0, 0));
        Doc.says("Throws `IllegalArgumentException` if day is out of range");
        for (int day : new int[] {-1, 5001, Integer.MIN_VALUE, Integer.MAX_VALUE}) {
            Check.argument("the day " + day, () -> waiting().order(1, day));
        }
        Doc.says("Throws `IllegalStateException` if it does not wait for an order");
        Check.state("one that commences on a day", () -> waiting().order(0, 0));
        Check.state("one that has an order", () -> book.order(1, 0));
        Book with = waiting();
        with.with(1);
        with.enact(NONE, 3);
        Check.state("one that commences with one that waits", () -> with.order(2, 0));
    }

    private static void strike() {
        Doc.open("Promise 9: strike");
        Doc.says("Strikes an instruction down today.");
        Book book = Book.withText(1);
        book.law.pass(3);
        book.strike(0, 1);
        Check.same("not known ahead of it", book.law.look(1, 2, 0), 1);
        Check.same("known today", book.law.look(1, 3, 0), 0);
        Doc.says("- `day`: 0 to 5000, from which on");
        Check.range("the day", 0, 5000, ARGUMENT, day -> Book.withText(1).strike(0, day));
        Check.same("ahead of the day", book.law.look(0, 3, 0), 1);
        Check.same("on the last day", book.law.look(5000, 3, 0), 0);
        Doc.says("Throws `IndexOutOfBoundsException` as told");
        Check.range("the instruction", 0, 1, INDEX, i -> waiting().strike(i, 0));
        Check.index("none", () -> new Book().strike(0, 0));
        Doc.says("Throws `IllegalArgumentException` if day is out of range");
        for (int day : new int[] {-1, 5001, Integer.MIN_VALUE, Integer.MAX_VALUE}) {
            Check.argument("the day " + day, () -> Book.withText(1).strike(0, day));
            Check.argument("the day " + day + ", once more", () -> book.strike(0, day));
        }
        Doc.says("Throws `IllegalStateException` if it was struck down");
        Check.state("struck down", () -> book.strike(0, 1));
        Check.state("from another day on", () -> book.strike(0, 0));
        Book later = Book.withText(1);
        later.strike(0, 5000);
        Check.state("from a day on that has not come", () -> later.strike(0, 1));
    }

    private static void suspend() {
        Doc.open("Promise 10: suspend");
        Doc.says("Suspends an instruction today.");
        Book book = Book.withText(1);
        book.law.pass(3);
        book.suspend(0, 1, 1);
        Check.same("not known ahead of it", book.law.look(1, 2, 0), 1);
        Check.same("known today", book.law.look(1, 3, 0), 0);
        Doc.says("- `from`: 0 to 5000");
        Check.range("from", 0, 5000, ARGUMENT, from -> Book.withText(1).suspend(0, from, 5000));
        Doc.says("- `to`: from to 5000");
        Check.range("to", 0, 5000, ARGUMENT, to -> Book.withText(1).suspend(0, 0, to));
        Check.range("to of the last day", 5000, 5000, ARGUMENT, to -> Book.withText(1).suspend(0, 5000, to));
        Check.range("to of a day", 77, 5000, ARGUMENT, to -> Book.withText(1).suspend(0, 77, to));
        Doc.says("Throws `IndexOutOfBoundsException` as told");
        Check.range("the instruction", 0, 1, INDEX, i -> waiting().suspend(i, 0, 0));
        Check.index("none", () -> new Book().suspend(0, 0, 0));
        Doc.says("Throws `IllegalArgumentException` if from or to is out of range");
        int[][] wrong = {{-1, 0}, {-1, -1}, {5001, 5001}, {0, 5001}, {0, -1}, {8, 7}, {5000, 0},
            {Integer.MIN_VALUE, 5}, {Integer.MIN_VALUE, Integer.MAX_VALUE}, {5, Integer.MAX_VALUE}, {5, Integer.MIN_VALUE}};
        for (int[] days : wrong) {
            String what = days[0] + " to " + days[1];
            Check.argument(what, () -> Book.withText(1).suspend(0, days[0], days[1]));
            Check.argument(what + ", once more", () -> book.suspend(0, days[0], days[1]));
        }
        Doc.says("Throws `IllegalStateException` if it was suspended");
        Check.state("suspended", () -> book.suspend(0, 1, 1));
        Check.state("other days", () -> book.suspend(0, 4000, 5000));
    }
}
