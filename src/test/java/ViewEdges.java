/** The edges that the document's Views name: who is in effect, in which order, and what conflicts. */
final class ViewEdges {
    private static final int NONE = Amendmark.NONE;

    private ViewEdges() {
    }

    static void run() {
        Doc.open("Views");
        threeThings();
        isKnown();
        hasTheTerritory();
        commences();
        sunset();
        struckDown();
        suspended();
        inOrder();
        fromNothing();
        conflicts();
    }

    private static void threeThings() {
        Doc.says("A view is of a day, of a day of knowledge, and of a territory.");
        Book book = Book.withAct();
        book.terms(Amendmark.ON_DAY, 2, 2, NONE);
        book.enact(NONE, 1);
        book.law.pass(1);
        book.strike(0, 3);
        for (int day = 0; day < 5; day++) {
            for (int known = 0; known < 2; known++) {
                for (int territory = 0; territory < 3; territory++) {
                    boolean due = day >= 2 && territory == 1 && (known == 0 || day < 3);
                    String what = day + ", known on " + known + ", in " + territory;
                    Check.same(what, book.law.look(day, known, territory), due ? 1 : 0);
                    Check.same("label on " + what, book.law.label(0), due ? 1000 : NONE);
                }
            }
        }
    }

    private static void isKnown() {
        Doc.says("In it an instruction is in effect, if it is known,");
        Book book = new Book();
        book.law.pass(3);
        book.law.act();
        book.on(0);
        book.enact(NONE, 1);
        book.tomorrow();
        book.enact(NONE, 2);
        String[] due = {"ii", "ii", "ii", "di", "dd"};
        for (int known = 0; known < due.length; known++) {
            book.law.look(5000, known, 0);
            book.stands(due[known]);
        }
    }

    private static void hasTheTerritory() {
        Doc.says("has the territory,");
        Book book = Book.withAct();
        for (int set = 1; set <= 7; set++) {
            book.terms(Amendmark.ON_DAY, 0, set, NONE);
            book.enact(NONE, set);
        }
        String[] due = {"didid" + "id", "iddiidd", "iiidddd"};
        for (int t = 0; t < 3; t++) {
            Check.same("in the territory " + t, book.law.look(0, 0, t), 4);
            book.stands(due[t]);
        }
    }

    private static void commences() {
        Doc.says("and commences, by what is known, on the day or ahead of it,");
        Book book = Book.withAct();
        book.withOrder();
        book.enact(NONE, 1);
        book.with(0);
        book.enact(NONE, 2);
        book.on(7);
        book.enact(NONE, 3);
        book.law.pass(2);
        book.order(0, 6);
        String[] dueAhead = {"iii", "iii", "iid", "iid"};
        String[] due = {"iii", "ddi", "ddd", "ddd"};
        for (int day = 5; day <= 8; day++) {
            book.law.look(day, 1, 0);
            book.stands(dueAhead[day - 5]);
            book.law.look(day, 2, 0);
            book.stands(due[day - 5]);
        }
    }

    private static void sunset() {
        Doc.says("and not: its sunset is the day or ahead of it;");
        Book book = Book.withAct();
        int[] sunsets = {NONE, 0, 4, 5, 6, 5000};
        for (int k = 0; k < sunsets.length; k++) {
            // A sunset on the day of the commencement, or ahead of it, leaves no day at all.
            book.terms(Amendmark.ON_DAY, 4, 7, sunsets[k]);
            book.enact(NONE, k + 1);
        }
        int[] days = {3, 4, 5, 6, 4999, 5000};
        String[] due = {"iiiiii", "diiddd", "diiidd", "diiiid", "diiiid", "diiiii"};
        for (int k = 0; k < days.length; k++) {
            book.law.look(days[k], 0, 0);
            book.stands(due[k]);
        }
    }

    private static void struckDown() {
        Doc.says("or it is struck down, by what is known, from the day on or from one ahead;");
        Book book = Book.withText(1);
        book.enact(NONE, 2);
        book.enact(NONE, 3);
        book.law.pass(1);
        book.strike(0, 4);
        book.strike(1, 0);
        book.strike(2, 5000);
        int[] days = {0, 3, 4, 5, 4999, 5000};
        String[] due = {"did", "did", "iid", "iid", "iid", "iii"};
        for (int k = 0; k < days.length; k++) {
            book.law.look(days[k], 0, 0);
            book.stands("ddd");
            book.law.look(days[k], 1, 0);
            book.stands(due[k]);
        }
    }

    private static void suspended() {
        Doc.says("or it is suspended then, by what is known.");
        Book book = Book.withText(1);
        for (int k = 2; k <= 4; k++) {
            book.enact(NONE, k);
        }
        book.law.pass(1);
        book.suspend(0, 3, 5);
        book.suspend(1, 4, 4);
        book.suspend(2, 0, 0);
        book.suspend(3, 5000, 5000);
        int[] days = {0, 1, 2, 3, 4, 5, 6, 4999, 5000};
        String[] due = {"ddid", "dddd", "dddd", "iddd", "iidd", "iddd", "dddd", "dddd", "dddi"};
        for (int k = 0; k < days.length; k++) {
            book.law.look(days[k], 0, 0);
            book.stands("dddd");
            book.law.look(days[k], 1, 0);
            book.stands(due[k]);
        }
    }

    private static void inOrder() {
        Doc.says("All that are in effect are done in the order of the days on which they commence, then by their numbers;");
        Book book = Book.withAct();
        int[] days = {6, 6, 5, 6, 0, 5000, 5, 0};
        book.on(0);
        book.enact(NONE, 1);
        for (int k = 0; k < days.length; k++) {
            book.on(days[k]);
            book.insert(0, Book.of(), k);
        }
        book.with(3);
        book.insert(0, Book.of(), 8);
        book.withOrder();
        book.order(book.insert(0, Book.of(), 9), 0);
        book.law.look(5000, 0, 0);
        book.reads(0, "4 7 9 2 6 8 0 1 3 5");
        // One made on a later day comes ahead, if it commences ahead; and behind those of its day.
        book.tomorrow();
        book.on(5);
        book.insert(0, Book.of(), 10);
        book.law.look(5000, 1, 0);
        book.reads(0, "4 7 9 2 6 8 10 0 1 3 5");
    }

    private static void fromNothing() {
        Doc.says("all of them, for each view, from nothing.");
        Book book = Book.withText(1, 2);
        book.terms(Amendmark.ON_DAY, 3, 7, 6);
        book.substitute(0, Book.of(1), 3);
        book.renumber(0, 8);
        book.on(5);
        book.omit(0, 3);
        book.insert(0, Book.of(1), 4);
        book.repeal(0);
        book.suspend(5, 0, 20);
        String[] due = {"1 2", "1 2", "1 2", "3 2", "3 2", "", "1 4 2", "1 4 2"};
        for (int pass = 0; pass < 2; pass++) {
            for (int day = due.length - 1; day >= 0; day--) {
                book.law.look(day, 0, 0);
                book.reads(0, due[day]);
                Check.same("the label on " + day, book.law.label(0), day >= 3 && day < 6 ? 8000 : 1000);
            }
        }
        Check.same("repealed", book.law.look(21, 0, 0), 0);
        book.stands("diif" + "dd");
        Check.same("there again", book.law.look(0, 0, 0), 1);
        book.stands("diiiii");
    }

    private static Book withTwoActs(int... days) {
        Book book = Book.withText(1);
        book.enact(NONE, 2, 1);
        book.on(days[0]);
        book.insert(0, Book.of(1), 2);
        book.law.act();
        book.on(days[1]);
        return book;
    }

    private static void conflictsOf(String what, Book book, int due) {
        book.law.look(5, 0, 0);
        Check.same(what, book.law.conflicts(), due);
    }

    private static void conflicts() {
        Doc.says("Two instructions of unlike acts conflict in a view, if both were done, commence on one day,"
            + " and are of the same provision, neither being an ENACT or an AMEND.");
        Book book = withTwoActs(4, 4);
        conflictsOf("one alone", book, 0);
        book.insert(0, Book.of(1), 3);
        conflictsOf("two of unlike acts", book, 1);
        book.insert(0, Book.of(1), 4);
        conflictsOf("two more pairs have one in common, and two are of one act", book, 2);
        book.insert(0, Book.of(9), 4);
        conflictsOf("one that has failed", book, 2);
        book.insert(1, Book.of(), 4);
        conflictsOf("of another provision", book, 2);
        book.on(5);
        book.insert(0, Book.of(), 4);
        conflictsOf("of another day", book, 2);
        book.on(4);
        book.strike(book.insert(0, Book.of(), 5), 5);
        conflictsOf("one that is not in effect", book, 2);
        book.with(2);
        book.law.act();
        book.move(0, NONE);
        conflictsOf("with one that commences with another", book, 5);
        Book other = withTwoActs(4, 4);
        other.move(1, 0);
        conflictsOf("of the same provision, if that is where another one goes", other, 0);
        // Two AMENDs of one instruction, in unlike acts, on one day, both done.
        Book amended = withTwoActs(4, 3);
        amended.amend(2, 7);
        amended.on(4);
        amended.renumber(1, 9);
        amended.law.act();
        amended.on(3);
        amended.amend(2, 8);
        amended.on(4);
        amended.enact(NONE, 3);
        conflictsOf("ENACT and AMEND", amended, 0);
        amended.renumber(1, 8);
        conflictsOf("kinds that change no words", amended, 1);
        amended.repeal(0);
        conflictsOf("a REPEAL", amended, 2);
        amendOfTheSameNumber();
        // One ENACT of a provision and another instruction of it, on one day, in unlike acts.
        Book enacted = Book.withText(1);
        enacted.law.act();
        enacted.omit(0, 1);
        conflictsOf("with its ENACT", enacted, 0);
    }

    /** An AMEND of the instruction 1 is not of the provision 1. */
    private static void amendOfTheSameNumber() {
        Book book = Book.withText(1);
        book.on(9);
        book.insert(0, Book.of(), 2);
        book.on(0);
        book.enact(NONE, 2, 1);
        book.on(4);
        book.insert(1, Book.of(), 3);
        book.law.act();
        book.amend(1, 4);
        book.law.act();
        book.on(5);
        book.insert(1, Book.of(), 5);
        book.law.look(5, 0, 0);
        book.stands("diddd" + "d");
        Check.same("an AMEND behind one of that number", book.law.conflicts(), 0);
        Book other = Book.withText(1);
        other.on(9);
        other.insert(0, Book.of(), 2);
        other.on(0);
        other.enact(NONE, 2, 1);
        other.on(4);
        other.amend(1, 4);
        other.law.act();
        other.insert(1, Book.of(), 3);
        other.law.look(5, 0, 0);
        other.stands("diddd");
        Check.same("an AMEND ahead of one of that number", other.law.conflicts(), 0);
    }
}
