import java.math.BigInteger;

/** The edges that the promises 11 to 23 name: the view, and what can be asked of it. */
final class AnswerEdges {
    private static final int NONE = Amendmark.NONE;
    private static final Class<?> INDEX = IndexOutOfBoundsException.class;
    private static final Class<?> ARGUMENT = IllegalArgumentException.class;

    /** A question of a place in a provision. */
    private interface Question {
        int ask(Book book, int provision, int place);
    }

    private AnswerEdges() {
    }

    static void run() {
        look();
        lookReturns();
        provisionAt();
        label();
        parent();
        words();
        wordAt();
        wordAnew();
        origin();
        refers();
        refersReturns();
        state();
        commences();
        conflicts();
        print();
    }

    private static void look() {
        Doc.open("Promise 11: look");
        Doc.says("Sets the view; what is made later on, on the day of its knowledge, is in it as well.");
        Book book = Book.withAct();
        book.law.pass(2);
        book.law.look(9, 2, 1);
        book.law.act();
        book.enact(NONE, 1, 100);
        book.reads(0, "100");
        book.insert(0, Book.of(), 5);
        book.reads(0, "100 5");
        book.withOrder();
        book.enact(NONE, 2);
        book.order(2, 9);
        book.lists("0 1");
        book.suspend(1, 9, 9);
        book.reads(0, "100");
        book.strike(2, 9);
        book.lists("0");
        book.law.pass(1);
        book.law.act();
        // From here on it is a later day.
        book.on(0);
        book.renumber(0, 7);
        book.strike(0, 0);
        Check.same("the label as known on the day 2", book.law.label(0), 1000);
        Check.same("not known", book.law.commences(3), NONE);
        Doc.says("- `day`: 0 to 5000");
        Check.range("day", 0, 5000, ARGUMENT, day -> new Amendmark().look(day, 0, 0));
        Doc.says("- `known`: 0 to today");
        Check.range("known on the day 0", 0, 0, ARGUMENT, known -> new Amendmark().look(0, known, 0));
        Check.range("known on the day 3", 0, 3, ARGUMENT, known -> book.law.look(0, known, 0));
        Doc.says("- `territory`: 0 to 2");
        Check.range("territory", 0, 2, ARGUMENT, territory -> new Amendmark().look(0, 0, territory));
    }

    private static void lookReturns() {
        Doc.says("Returns how many provisions are there in it.");
        Book book = Book.withAct();
        for (int p = 0; p < 20; p++) {
            book.on(p);
            book.enact(p % 3 - 1, p + 1);
        }
        Check.same("all of them", book.law.look(5000, 0, 0), 20);
        book.on(30);
        book.repeal(1);
        book.repeal(0);
        Check.same("without those in 1", book.law.look(29, 0, 0), 20);
        Check.same("those at the top", book.law.look(30, 0, 0), 6);
        for (int p = 0; p < 20; p++) {
            Check.same("on " + p, book.law.look(p, 0, 0), p + 1);
        }
        Doc.says("Throws `IllegalArgumentException` if day, known or territory is out of range");
        int[][] wrong = {{-1, 0, 0}, {5001, 0, 0}, {0, -1, 0}, {0, 1, 0}, {0, 0, -1}, {0, 0, 3},
            {Integer.MIN_VALUE, 0, 0}, {Integer.MAX_VALUE, 0, 0}, {0, Integer.MIN_VALUE, 0}, {0, Integer.MAX_VALUE, 0},
            {0, 0, Integer.MIN_VALUE}, {0, 0, Integer.MAX_VALUE}, {-1, 1, 3}};
        for (int[] view : wrong) {
            Check.argument(view[0] + " " + view[1] + " " + view[2], () -> book.law.look(view[0], view[1], view[2]));
        }
    }

    private static void provisionAt() {
        Doc.open("Promise 12: provisionAt");
        Doc.says("Returns a provision in the view by the order of the code: those at the top by their labels,"
            + " each ahead of those in it.");
        Book book = Book.withAct();
        book.law.enact(NONE, 10, 0);
        book.law.enact(NONE, 9, 2);
        book.law.enact(NONE, 9, 28);
        book.law.enact(1, 99, 0);
        book.law.enact(1, 98, 728);
        book.law.enact(4, 1, 0);
        book.law.enact(2, 1, 0);
        book.lists("2 6 1 4 5 3 0");
        // By the labels of the view, not by those of the ENACT.
        book.on(1);
        book.renumber(2, 11);
        book.move(4, 0);
        book.law.look(1, 0, 0);
        book.lists("1 3 0 4 5 2 6");
        Doc.says("Returns the provision; NONE if there are not so many.");
        Check.same("the last one", book.law.provisionAt(6), 6);
        for (int place : new int[] {7, 8, 19, 20, 40, Integer.MAX_VALUE}) {
            Check.same("the place " + place, book.law.provisionAt(place), NONE);
        }
        Check.same("none at all", new Amendmark().provisionAt(0), NONE);
        Book twenty = Book.withAct();
        for (int p = 0; p < 20; p++) {
            twenty.enact(NONE, p + 1);
        }
        Check.same("the last one of all", twenty.law.provisionAt(19), 19);
        Check.same("one behind all", twenty.law.provisionAt(20), NONE);
        Doc.says("Throws `IndexOutOfBoundsException` if place is below 0");
        for (int place : new int[] {-1, -2, Integer.MIN_VALUE}) {
            Check.index("the place " + place, () -> book.law.provisionAt(place));
            Check.index("the place " + place + " of none", () -> new Amendmark().provisionAt(place));
        }
    }

    /** One at the top, one in it, one that is not there on the day 0, and one whose ENACT fails. */
    private static Book ofFour() {
        Book book = Book.withAct();
        book.law.enact(NONE, 99, 728);
        book.say(Book.of(), Book.of(1, 2, 3, 139));
        book.law.enact(0, 1, 0);
        book.on(5);
        book.law.enact(1, 50, 26);
        book.on(0);
        book.law.enact(0, 1, 0);
        book.on(6);
        book.repeal(1);
        return book;
    }

    private static void label() {
        Doc.open("Promise 13: label");
        Doc.tells("Returns the label of a provision in the view.");
        Doc.says("Returns 1000 times the number, and the letters as told with enact(), together; NONE if it is not there.");
        Book book = ofFour();
        int[][] due = {{99728, 1000, NONE, NONE}, {99728, 1000, 50026, NONE}, {99728, NONE, NONE, NONE}};
        for (int k = 0; k < 3; k++) {
            book.law.look(new int[] {0, 5, 6}[k], 0, 0);
            for (int p = 0; p < 4; p++) {
                Check.same("of " + p, book.law.label(p), due[k][p]);
            }
        }
        Doc.says("Throws `IndexOutOfBoundsException` as told");
        Check.range("the provision", 0, 3, INDEX, p -> book.law.label(p));
        Check.index("of none", () -> new Amendmark().label(0));
    }

    private static void parent() {
        Doc.open("Promise 14: parent");
        Doc.tells("Returns in which provision one is in the view.");
        Doc.says("Returns the provision; NONE at the top, or if it is not there.");
        Book book = ofFour();
        int[][] due = {{NONE, 0, NONE, NONE}, {NONE, 0, 1, NONE}, {NONE, NONE, NONE, NONE}};
        for (int k = 0; k < 3; k++) {
            book.law.look(new int[] {0, 5, 6}[k], 0, 0);
            for (int p = 0; p < 4; p++) {
                Check.same("of " + p, book.law.parent(p), due[k][p]);
            }
        }
        Doc.says("Throws `IndexOutOfBoundsException` as told");
        Check.range("the provision", 0, 3, INDEX, p -> book.law.parent(p));
        Check.index("of none", () -> new Amendmark().parent(0));
    }

    private static void words() {
        Doc.open("Promise 15: words");
        Doc.tells("Returns how many words a provision has in the view.");
        Doc.says("Returns how many; NONE if it is not there.");
        Book book = ofFour();
        int[][] due = {{0, 4, NONE, NONE}, {0, 4, 0, NONE}, {0, NONE, NONE, NONE}};
        for (int k = 0; k < 3; k++) {
            book.law.look(new int[] {0, 5, 6}[k], 0, 0);
            for (int p = 0; p < 4; p++) {
                Check.same("of " + p, book.law.words(p), due[k][p]);
            }
        }
        book.on(0);
        book.insert(1, Book.of(), 5, 6, 7, 8);
        book.insert(1, Book.of(), 9, 10, 11, 12);
        book.law.look(0, 0, 0);
        Check.same("twelve", book.law.words(1), 12);
        Doc.says("Throws `IndexOutOfBoundsException` as told");
        Check.range("the provision", 0, 3, INDEX, p -> book.law.words(p));
        Check.index("of none", () -> new Amendmark().words(0));
    }

    /** The provision and the place, each too small and too large: also of one without words, and of none that is there. */
    private static void throwsAsTold(Question question) {
        Book book = ofFour();
        Check.range("the place of four words", 0, 3, INDEX, place -> question.ask(book, 1, place));
        for (int provision : new int[] {NONE, 4, Integer.MIN_VALUE, Integer.MAX_VALUE}) {
            Check.index("the provision " + provision, () -> question.ask(book, provision, 0));
        }
        for (int provision : new int[] {0, 2, 3}) {
            for (int place : new int[] {0, 1, 11, 12, -1, Integer.MAX_VALUE}) {
                Check.index("the place " + place + " of " + provision, () -> question.ask(book, provision, place));
            }
        }
        book.insert(1, Book.of(), 5);
        book.law.look(5, 0, 0);
        Check.range("the place ahead of the words of the day 6", 0, 3, INDEX, place -> question.ask(book, 1, place));
        book.law.look(6, 0, 0);
        Check.index("one that is not there any more", () -> question.ask(book, 1, 0));
        Check.index("one that went with it", () -> question.ask(book, 2, 0));
        Book full = Book.withText(1, 2, 3, 4);
        full.insert(0, Book.of(), 1, 2, 3, 4);
        full.insert(0, Book.of(), 1, 2, 3, 4);
        Check.range("the place of twelve words", 0, 11, INDEX, place -> question.ask(full, 0, place));
        full.omit(0, 2);
        Check.range("the place of one word", 0, 0, INDEX, place -> question.ask(full, 0, place));
        Check.index("of none", () -> question.ask(new Book(), 0, 0));
    }

    private static void wordAt() {
        Doc.open("Promise 16: wordAt");
        Doc.says("Returns a word of a provision in the view.");
        Book book = Book.withText(0, 99, 100, 139);
        book.on(1);
        book.omit(0, 99);
        book.reads(0, "0 99 100 139");
        book.law.look(1, 0, 0);
        book.reads(0, "0");
        Doc.says("Throws `IndexOutOfBoundsException` as told, of the provision or the place");
        throwsAsTold((of, provision, place) -> of.law.wordAt(provision, place));
    }

    private static String anew(Book book, int provision) {
        StringBuilder text = new StringBuilder();
        for (int k = 0; k < 13 && book.law.wordAnew(provision, k) != NONE; k++) {
            text.append(k == 0 ? "" : " ").append(book.law.wordAnew(provision, k));
        }
        return text.toString();
    }

    private static void wordAnew() {
        Doc.open("Promise 17: wordAnew");
        Doc.says("Returns the same, found for this provision alone, word by word,"
            + " from all instructions of it that were done in the view;");
        Book book = Book.withText(1, 2, 1, 2);
        book.enact(NONE, 2, 1, 2);
        for (int day = 1; day <= 4; day++) {
            book.on(day);
            book.substitute(0, Book.of(day), day + 1, 9);
            book.insert(1, Book.of(2), 5, 5, 5, 5);
            book.insert(1, Book.of(7), 6);
        }
        book.on(3);
        book.omit(0, 4, 9);
        book.move(1, 0);
        book.renumber(0, 9);
        String[] zero = {"1 2 1 2", "2 9 2 2 9 2", "3 9 9 3 9 3 9 9 3 9", "3 9 9 3 9 3 9 9 3 9", "3 9 9 3 9 3 9 9 3 9"};
        String[] one = {"1 2", "1 2 5 5 5 5", "1 2 5 5 5 5 5 5 5 5", "1 2 5 5 5 5 5 5 5 5", "1 2 5 5 5 5 5 5 5 5"};
        for (int day = 4; day >= 0; day--) {
            book.law.look(day, 0, 0);
            for (int p = 0; p < 2; p++) {
                String due = p == 0 ? zero[day] : one[day];
                String got = anew(book, p);
                Check.holds("'" + got + "' of " + p + " on " + day + ", due is '" + due + "'", got.equals(due));
                book.reads(p, due);
            }
        }
        anewBesideOthers();
        Doc.says("NONE if there is no such place.");
        Check.same("behind the last one", book.law.wordAnew(0, 4), NONE);
        Check.same("the place 11", book.law.wordAnew(0, 11), NONE);
        Check.same("the place 12", book.law.wordAnew(0, 12), NONE);
        Check.same("far behind", book.law.wordAnew(0, Integer.MAX_VALUE), NONE);
        noPlaceAnew();
        Doc.says("Throws `IndexOutOfBoundsException` as told, of the provision, or if place is below 0");
        Check.range("the provision", 0, 1, INDEX, p -> book.law.wordAnew(p, 0));
        Check.index("of none", () -> new Amendmark().wordAnew(0, 0));
        for (int place : new int[] {-1, -2, Integer.MIN_VALUE}) {
            Check.index("the place " + place, () -> book.law.wordAnew(0, place));
        }
    }

    /** The instructions with the numbers of the provisions are not in effect, or have failed. */
    private static void anewBesideOthers() {
        Book book = Book.withText(1);
        book.omit(0, 9);
        book.on(9);
        book.omit(0, 1);
        book.on(0);
        book.enact(NONE, 2, 3);
        book.insert(1, Book.of(3), 4);
        book.enact(NONE, 3, 5);
        book.insert(2, Book.of(), 6, 7);
        book.stands("dfi" + "dddd");
        Check.holds("'" + anew(book, 1) + "' of 1", anew(book, 1).equals("3 4"));
        Check.holds("'" + anew(book, 2) + "' of 2", anew(book, 2).equals("5 6 7"));
    }

    private static void noPlaceAnew() {
        Book book = ofFour();
        Check.same("without words", book.law.wordAnew(0, 0), NONE);
        Check.same("the last word", book.law.wordAnew(1, 3), 139);
        Check.same("behind it", book.law.wordAnew(1, 4), NONE);
        Check.same("one that is not there yet", book.law.wordAnew(2, 0), NONE);
        Check.same("one whose ENACT has failed", book.law.wordAnew(3, 0), NONE);
        book.law.look(6, 0, 0);
        Check.same("one that is not there any more", book.law.wordAnew(1, 0), NONE);
        Book full = Book.withText(1, 2, 3, 4);
        full.insert(0, Book.of(), 1, 2, 3, 4);
        full.insert(0, Book.of(), 1, 2, 3, 4);
        Check.same("the twelfth", full.law.wordAnew(0, 11), 4);
        Check.same("behind the twelfth", full.law.wordAnew(0, 12), NONE);
        full.omit(0, 1);
        Check.same("all words gone", full.law.wordAnew(0, 0), NONE);
    }

    private static void origin() {
        Doc.open("Promise 18: origin");
        Doc.says("Returns the instruction of which a word comes: that which put it in, also if an AMEND told it.");
        Book book = Book.withText(1, 1);
        book.on(3);
        int insert = book.insert(0, Book.of(1), 1);
        int substitute = book.substitute(0, Book.of(1, 1, 1), 1, 1, 1);
        int end = book.insert(0, Book.of(), 2);
        book.on(2);
        book.enact(NONE, 2, 5);
        int enact = end + 1;
        book.on(1);
        int amend = book.amend(end, 1, 2);
        book.amend(enact, 7, 8);
        book.law.look(2, 0, 0);
        book.comesFrom(0, "0 0");
        book.comesFrom(1, enact + " " + enact);
        book.law.look(3, 0, 0);
        book.comesFrom(0, substitute + " " + substitute + " " + substitute + " " + end + " " + end);
        book.strike(substitute, 0);
        book.comesFrom(0, "0 " + insert + " 0 " + end + " " + end);
        book.strike(amend, 0);
        book.comesFrom(0, "0 " + insert + " 0 " + end);
        Doc.says("Throws `IndexOutOfBoundsException` as told, of the provision or the place");
        throwsAsTold((of, provision, place) -> of.law.origin(provision, place));
    }

    private static void refers() {
        Doc.open("Promise 19: refers");
        Doc.says("Returns to what a reference refers: one that follows to the label that its provision has in the view;");
        Book book = Book.withText(100, 101, 102);
        book.on(2);
        book.enact(NONE, 2);
        book.enact(NONE, 2);
        book.on(3);
        book.law.instruct(Amendmark.RENUMBER, 1, 99, 728);
        book.on(4);
        book.repeal(1);
        int[] due = {NONE, NONE, 2000, 99728, NONE};
        for (int day = 0; day < 5; day++) {
            book.law.look(day, 0, 0);
            Check.same("on " + day, book.law.refers(0, 1), due[day]);
            Check.same("to itself", book.law.refers(0, 0), 1000);
            Check.same("to one whose ENACT fails", book.law.refers(0, 2), NONE);
        }
        Doc.says("a frozen one to that which it had in the view of the day on which the instruction commences"
            + " of which the word comes, known on the same day as this one, of the same territory.");
        frozenOnTheDay();
        frozenAsKnown();
        frozenInTheTerritory();
    }

    private static void frozenOnTheDay() {
        Book book = Book.withText(121);
        book.on(2);
        book.enact(NONE, 2);
        for (int day = 1; day <= 5; day++) {
            book.on(day);
            book.insert(0, Book.of(), 121);
            book.renumber(1, day + 10);
        }
        book.on(6);
        book.repeal(1);
        book.insert(0, Book.of(), 121);
        book.law.look(6, 0, 0);
        // That of the whole day: what was told behind the reference, on its day, is in it.
        int[] due = {NONE, NONE, 12000, 13000, 14000, 15000, NONE};
        for (int k = 0; k < due.length; k++) {
            Check.same("of the day " + k, book.law.refers(0, k), due[k]);
        }
    }

    private static void frozenAsKnown() {
        Book book = Book.withText(1);
        book.enact(NONE, 2);
        book.withOrder();
        int ordered = book.insert(0, Book.of(), 121);
        book.on(4);
        book.renumber(1, 4);
        book.on(6);
        book.renumber(1, 6);
        book.tomorrow();
        book.order(ordered, 5);
        book.tomorrow();
        book.on(5);
        int later = book.renumber(1, 5);
        book.tomorrow();
        book.strike(later, 5);
        int[] due = {0, 4000, 5000, 4000};
        for (int known = 1; known <= 3; known++) {
            book.law.look(5000, known, 0);
            Check.same("known on " + known, book.law.refers(0, 1), due[known]);
            Check.same("the label", book.law.label(1), 6000);
        }
        book.law.look(5000, 0, 0);
        Check.index("known on 0", () -> book.law.refers(0, 1));
    }

    private static void frozenInTheTerritory() {
        Book book = Book.withText(120);
        for (int t = 0; t < 3; t++) {
            book.terms(Amendmark.ON_DAY, 0, 1 << t, NONE);
            book.renumber(0, t + 10);
        }
        book.on(1);
        book.renumber(0, 20);
        for (int t = 0; t < 3; t++) {
            book.law.look(7, 0, t);
            Check.same("in " + t, book.law.refers(0, 0), (t + 10) * 1000);
            Check.same("the label in " + t, book.law.label(0), 20000);
        }
    }

    private static void refersReturns() {
        Doc.says("Returns the label, as told with label(); NONE if it is not there, or the word is no reference.");
        Book book = Book.withAct();
        book.law.word(0, true);
        book.law.word(99, true);
        book.law.word(100, true);
        book.law.word(120, true);
        book.law.enact(NONE, 99, 728);
        int[] due = {NONE, NONE, 99728, 99728};
        for (int k = 0; k < 4; k++) {
            Check.same("the word " + k, book.law.refers(0, k), due[k]);
        }
        book.insert(0, Book.of(), 119, 139, 101, 121);
        for (int k = 4; k < 8; k++) {
            Check.same("to one that is not there", book.law.refers(0, k), NONE);
        }
        Doc.says("Throws `IndexOutOfBoundsException` as told, of the provision or the place");
        throwsAsTold((of, provision, place) -> of.law.refers(provision, place));
    }

    private static void state() {
        Doc.open("Promise 20: state");
        Doc.says("Returns what an instruction is in the view: IDLE if it is not in effect.");
        Book book = Book.withText(1);
        int failed = book.omit(0, 2);
        book.terms(Amendmark.ON_DAY, 3, 2, 5);
        int later = book.repeal(0);
        int[][] due = {{2, 1, 0}, {3, 1, 1}, {4, 1, 1}, {5, 1, 0}, {3, 0, 0}, {3, 2, 0}};
        for (int[] view : due) {
            book.law.look(view[0], 0, view[1]);
            Check.same("DONE", book.law.state(0), Amendmark.DONE);
            Check.same("FAILED", book.law.state(failed), Amendmark.FAILED);
            Check.same("on " + view[0] + " in " + view[1], book.law.state(later), view[2]);
        }
        Doc.says("Throws `IndexOutOfBoundsException` as told");
        Check.range("the instruction", 0, 2, INDEX, i -> book.law.state(i));
        Check.index("of none", () -> new Amendmark().state(0));
    }

    private static void commences() {
        Doc.open("Promise 21: commences");
        Doc.tells("Returns on which day an instruction commences, by what is known in the view.");
        Doc.says("Returns the day, whatever territories it has;");
        Book book = Book.withAct();
        for (int set = 1; set <= 7; set++) {
            book.terms(Amendmark.ON_DAY, set == 7 ? 5000 : set - 1, set, 1);
            book.enact(NONE, set);
        }
        book.strike(0, 0);
        book.suspend(1, 0, 5000);
        for (int t = 0; t < 3; t++) {
            book.law.look(0, 0, t);
            for (int i = 0; i < 7; i++) {
                Check.same("of " + i + " in " + t, book.law.commences(i), i == 6 ? 5000 : i);
            }
        }
        Doc.says("NONE if that, or the instruction, is not known.");
        book.tomorrow();
        book.terms(Amendmark.BY_ORDER, 0, 7, NONE);
        book.enact(NONE, 8);
        book.terms(Amendmark.WITH, 7, 7, NONE);
        book.enact(NONE, 9);
        book.terms(Amendmark.ON_DAY, 0, 7, NONE);
        book.enact(NONE, 10);
        book.law.pass(1);
        book.order(7, 0);
        int[][] due = {{NONE, NONE, NONE}, {NONE, NONE, 0}, {0, 0, 0}};
        for (int known = 0; known < 3; known++) {
            book.law.look(0, known, 0);
            for (int k = 0; k < 3; k++) {
                Check.same("of " + (7 + k) + " known on " + known, book.law.commences(7 + k), due[known][k]);
            }
        }
        Doc.says("Throws `IndexOutOfBoundsException` as told");
        Check.range("the instruction", 0, 9, INDEX, i -> book.law.commences(i));
        Check.index("of none", () -> new Amendmark().commences(0));
    }

    private static void conflicts() {
        Doc.open("Promise 22: conflicts");
        Doc.says("Returns how many pairs of instructions conflict in the view.");
        Check.same("none at all", new Amendmark().conflicts(), 0);
        Book book = Book.withText(1);
        book.renumber(0, 1);
        Check.same("one alone", book.law.conflicts(), 0);
        // 39 instructions in ten acts: three in the first one, four in each of the others.
        for (int k = 1; k < 39; k++) {
            if (k > 2 && (k - 3) % 4 == 0) {
                book.law.act();
            }
            book.renumber(0, 1);
        }
        Check.same("as many as there can be", book.law.conflicts(), 39 * 38 / 2 - 3 - 9 * 6);
        book.strike(1, 0);
        Check.same("without one", book.law.conflicts(), 38 * 37 / 2 - 1 - 9 * 6);
    }

    private static void print() {
        Doc.open("Promise 23: print");
        Doc.says("Returns a print of the view: a long that is told with overflow, at first 11; each of these makes it 31 times"
            + " itself and a number, together: for each provision that is there, in the order of the code, its number,"
            + " its label, how many words it has, and for each word that and its origin.");
        Check.same("nothing", new Amendmark().print(), 11);
        Book book = Book.withAct();
        Check.same("nothing in an act", book.law.print(), 11);
        book.law.enact(NONE, 99, 728);
        Check.same("one without words", book.law.print(), ((11L * 31) * 31 + 99728) * 31);
        for (int p = 1; p < 20; p++) {
            book.enact(p % 2 - 1, 20 - p, 139, 99, 120, 0);
        }
        for (int p = 0; p < 20; p++) {
            book.insert(p, Book.of(), 1, 2, 3, 4);
        }
        book.law.look(5000, 0, 2);
        Check.same("all of them", book.law.print(), printOf(book));
        Check.same("they are 20", book.law.look(0, 0, 0), 20);
        Check.same("in another view", book.law.print(), printOf(book));
    }

    /** Without overflow up to the end, and then the low 64 bits of it. */
    private static long printOf(Book book) {
        BigInteger print = BigInteger.valueOf(11);
        for (int k = 0; book.law.provisionAt(k) != NONE; k++) {
            int p = book.law.provisionAt(k);
            print = with(with(with(print, p), book.law.label(p)), book.law.words(p));
            for (int place = 0; place < book.law.words(p); place++) {
                print = with(with(print, book.law.wordAt(p, place)), book.law.origin(p, place));
            }
        }
        Check.holds("that it overflows", print.bitLength() > 64);
        return print.longValue();
    }

    private static BigInteger with(BigInteger print, int number) {
        return print.multiply(BigInteger.valueOf(31)).add(BigInteger.valueOf(number));
    }
}
