/** What the document's Terms say of instructions: what each does, when it fails, and when it is in effect. */
final class RuleTests {
    private static final int NONE = Amendmark.NONE;

    /** An act of the day 0 with one provision: 1 2 1 2. */
    private static Book withText() {
        Book book = new Book();
        book.law.act();
        book.enact(NONE, 1, 1, 2, 1, 2);
        return book;
    }

    private static void enactAtTheTopAndIn() {
        Book book = withText();
        book.enact(0, 1);
        book.enact(0, 1);
        book.enact(2, 1);
        book.enact(NONE, 1);
        book.enact(1, 1);
        book.stands("ddfffd");
        book.lists("0 1 5");
        Check.same("parent of 5", book.law.parent(5), 1);
        book.reads(5, "");
        book.reads(4, "none");
        // A label is that with the letters.
        book.law.enact(NONE, 1, 1);
        book.law.enact(NONE, 1, 1);
        book.stands("ddfffddf");
    }

    private static void enactInOneThatComesLater() {
        Book book = new Book();
        book.law.act();
        book.on(3);
        book.enact(NONE, 1);
        book.on(2);
        book.enact(0, 1);
        book.on(3);
        book.enact(0, 2);
        book.law.look(3, 0, 0);
        book.stands("dfd");
    }

    private static void insertBehindTheFirstPlace() {
        Book book = withText();
        book.insert(0, Book.of(1), 7, 8);
        book.reads(0, "1 7 8 2 1 2");
        book.insert(0, Book.of(), 9);
        book.reads(0, "1 7 8 2 1 2 9");
        book.insert(0, Book.of(1, 2), 5);
        book.reads(0, "1 7 8 2 1 2 5 9");
        book.insert(0, Book.of(2, 2), 5);
        book.insert(0, Book.of(9, 9), 5);
        book.stands("dddd" + "ff");
        book.insert(0, Book.of(9), 1, 2, 3, 4);
        book.reads(0, "1 7 8 2 1 2 5 9 1 2 3 4");
        book.insert(0, Book.of(), 6);
        book.insert(0, Book.of(1), 6);
        book.stands("ddddffd" + "ff");
        book.enact(NONE, 2);
        book.insert(1, Book.of(), 3);
        book.reads(1, "3");
        Book other = withText();
        other.insert(0, Book.of(1, 2, 1, 2), 3, 4);
        other.insert(0, Book.of(1, 2, 3, 4), 5);
        other.reads(0, "1 2 1 2 3 4 5");
    }

    private static void substituteEachTime() {
        Book book = withText();
        book.substitute(0, Book.of(1), 2, 1);
        book.reads(0, "2 1 2 2 1 2");
        book.substitute(0, Book.of(2, 1), 3);
        book.reads(0, "3 2 3 2");
        book.substitute(0, Book.of(3));
        book.reads(0, "2 2");
        book.substitute(0, Book.of(3), 4);
        book.substitute(0, Book.of(2), 2, 2, 2);
        book.reads(0, "2 2 2 2 2 2");
        book.substitute(0, Book.of(2, 2, 2, 2), 1);
        book.reads(0, "1 2 2");
        book.stands("dddd" + "f" + "dd");
        book.substitute(0, Book.of(1, 2, 2));
        book.reads(0, "");
        book.substitute(0, Book.of(1), 1);
        book.stands("ddddfddd" + "f");
    }

    /** Places are found from the left, without having a word in common. */
    private static void substituteWithoutCommonWords() {
        Book book = new Book();
        book.law.act();
        book.enact(NONE, 1, 4, 4, 4);
        book.substitute(0, Book.of(4, 4), 5);
        book.reads(0, "5 4");
        Book other = new Book();
        other.law.act();
        other.enact(NONE, 1, 4, 4, 4, 4);
        other.substitute(0, Book.of(4, 4), 4);
        other.reads(0, "4 4");
    }

    private static void substituteUpToTwelveWords() {
        Book book = withText();
        book.insert(0, Book.of(), 3, 3);
        book.substitute(0, Book.of(1), 5, 6, 7, 8);
        book.reads(0, "5 6 7 8 2 5 6 7 8 2 3 3");
        book.substitute(0, Book.of(3), 3, 4);
        book.substitute(0, Book.of(2), 1);
        book.reads(0, "5 6 7 8 1 5 6 7 8 1 3 3");
        book.substitute(0, Book.of(6), 9, 9);
        book.stands("ddd" + "f" + "d" + "f");
        book.substitute(0, Book.of(5, 6, 7, 8), 1, 1, 1, 1);
        book.reads(0, "1 1 1 1 1 1 1 1 1 1 3 3");
    }

    private static void omitToTheEnd() {
        Book book = withText();
        book.omit(0, 3);
        book.omit(0, 2, 2);
        book.reads(0, "1 2 1 2");
        book.omit(0, 2, 1);
        book.reads(0, "1");
        book.omit(0, 1);
        book.reads(0, "");
        book.omit(0, 1);
        book.stands("d" + "ff" + "dd" + "f");
    }

    private static void wordsOfOneThatIsNotThere() {
        Book book = withText();
        book.repeal(0);
        book.insert(0, Book.of(), 1);
        book.substitute(0, Book.of(1), 1);
        book.omit(0, 1);
        book.renumber(0, 5);
        book.move(0, NONE);
        book.repeal(0);
        book.stands("dd" + "ffffff");
        book.reads(0, "none");
    }

    private static void renumberBesideAnother() {
        Book book = withText();
        book.enact(NONE, 2);
        book.enact(1, 1);
        book.renumber(0, 2);
        book.renumber(0, 1);
        book.renumber(2, 2);
        Check.same("label of 2", book.law.label(2), 2000);
        book.law.instruct(Amendmark.RENUMBER, 0, 2, 28);
        Check.same("label of 0", book.law.label(0), 2028);
        book.lists("1 2 0");
        book.renumber(1, 1);
        book.stands("ddd" + "f" + "ddd" + "d");
        book.lists("1 2 0");
        book.repeal(0);
        book.law.instruct(Amendmark.RENUMBER, 1, 2, 28);
        Check.same("the label of one that is gone is free", book.law.label(1), 2028);
    }

    private static void moveInAndOut() {
        Book book = withText();
        book.enact(0, 2);
        book.enact(1, 3);
        book.enact(NONE, 4);
        book.move(0, 0);
        book.move(0, 1);
        book.move(0, 2);
        book.stands("dddd" + "fff");
        book.move(1, 3);
        book.lists("0 3 1 2");
        Check.same("parent of 1", book.law.parent(1), 3);
        Check.same("parent of 2", book.law.parent(2), 1);
        book.move(0, 2);
        book.lists("3 1 2 0");
        book.move(3, 0);
        book.move(2, NONE);
        book.lists("2 0 3 1");
        Check.same("parent of 2", book.law.parent(2), NONE);
        book.move(2, NONE);
        book.move(0, 2);
        book.stands("dddd" + "fff" + "dd" + "f" + "ddd");
    }

    private static void moveBesideItsLabel() {
        Book book = withText();
        book.enact(NONE, 2);
        book.enact(1, 1);
        book.move(0, 1);
        book.move(2, NONE);
        book.renumber(0, 3);
        book.move(2, NONE);
        book.move(0, 1);
        book.stands("ddd" + "ff" + "ddd");
        book.repeal(1);
        book.move(2, 1);
        book.stands("dddffddd" + "d" + "f");
        book.lists("2");
    }

    private static void repealWithAllInIt() {
        Book book = withText();
        book.enact(0, 1);
        book.enact(1, 1);
        book.enact(2, 1);
        book.enact(NONE, 2);
        book.repeal(1);
        book.lists("0 4");
        book.repeal(3);
        book.enact(1, 9);
        book.enact(0, 1, 6);
        book.stands("ddddd" + "d" + "ff" + "d");
        book.lists("0 6 4");
        book.repeal(0);
        book.lists("4");
    }

    /** One whose outer has a greater number goes with it too. */
    private static void repealAgainstTheNumbers() {
        Book book = withText();
        book.enact(NONE, 2);
        book.enact(NONE, 3);
        book.move(0, 1);
        book.move(1, 2);
        book.lists("2 1 0");
        book.repeal(2);
        book.lists("");
    }

    private static void amendAhead() {
        Book book = withText();
        book.on(9);
        int insert = book.insert(0, Book.of(1), 5);
        int substitute = book.substitute(0, Book.of(2), 6);
        int omit = book.omit(0, 1);
        int enact = omit + 1;
        book.enact(NONE, 2, 7);
        book.on(8);
        book.amend(insert, 8, 8);
        book.amend(substitute);
        book.amend(omit, 1);
        book.amend(enact, 9);
        book.law.look(8, 0, 0);
        book.reads(0, "1 2 1 2");
        book.stands("diiiidddd");
        book.law.look(9, 0, 0);
        book.reads(0, "");
        book.reads(1, "9");
        book.stands("ddddddddd");
        book.law.strike(omit, 0);
        book.reads(0, "1 8 8 1");
        Check.same("the origin is the INSERT", book.law.origin(0, 1), insert);
        Check.same("the origin is the ENACT", book.law.origin(1, 0), enact);
    }

    private static void amendTheFirstInstruction() {
        Book book = new Book();
        book.law.act();
        book.on(5);
        book.enact(NONE, 1, 1, 2);
        book.on(4);
        book.amend(0, 3);
        book.law.look(5, 0, 0);
        book.reads(0, "3");
        Check.same("the origin", book.law.origin(0, 0), 0);
        Check.same("found anew", book.law.wordAnew(0, 0), 3);
    }

    private static void amendTooLate() {
        Book book = withText();
        book.on(5);
        int done = book.insert(0, Book.of(1), 5);
        int failed = book.insert(0, Book.of(9), 5);
        int repeal = book.renumber(0, 2);
        book.amend(done, 6);
        book.amend(failed, 6);
        book.amend(repeal, 6);
        book.on(6);
        book.amend(done, 7);
        book.law.look(6, 0, 0);
        book.stands("d" + "dfd" + "ffff");
        book.reads(0, "1 5 2 1 2");
    }

    /** The last one told stands; one that has no new ones takes them away; a text too long fails then. */
    private static void amendTwice() {
        Book book = withText();
        book.on(5);
        int insert = book.insert(0, Book.of(), 5);
        book.on(4);
        int last = book.amend(insert, 6);
        book.on(3);
        int first = book.amend(insert, 7);
        int ofAmend = book.amend(last, 8);
        book.law.look(5, 0, 0);
        book.reads(0, "1 2 1 2 6");
        book.law.suspend(last, 5, 5);
        book.reads(0, "1 2 1 2 7");
        book.law.strike(first, 5);
        book.reads(0, "1 2 1 2 5");
        Check.same("an AMEND of an AMEND is done", book.law.state(ofAmend), Amendmark.DONE);
    }

    private static void amendOfOneNotInEffect() {
        Book book = withText();
        book.law.terms(Amendmark.BY_ORDER, 0, 7, NONE);
        int waits = book.insert(0, Book.of(), 5);
        book.on(0);
        int amend = book.amend(waits, 6);
        Check.same("it is done", book.law.state(amend), Amendmark.DONE);
        book.reads(0, "1 2 1 2");
        book.law.order(waits, 0);
        Check.same("done already on the same day", book.law.state(amend), Amendmark.FAILED);
        book.reads(0, "1 2 1 2 5");
        book.law.strike(waits, 0);
        Check.same("struck down, so not done", book.law.state(amend), Amendmark.DONE);
        book.reads(0, "1 2 1 2");
    }

    private static void amendedWordsThatHaveNoRoom() {
        Book book = withText();
        book.on(1);
        book.insert(0, Book.of(), 3, 3, 3, 3);
        book.on(5);
        int insert = book.insert(0, Book.of(), 5);
        int substitute = book.substitute(0, Book.of(1), 4);
        book.on(4);
        book.amend(insert, 1, 1, 1, 1);
        book.amend(substitute, 1, 1);
        book.law.look(5, 0, 0);
        book.reads(0, "1 2 1 2 3 3 3 3 1 1 1 1");
        Check.same("the substitute fails", book.law.state(substitute), Amendmark.FAILED);
    }

    private static void amendedToNoWords() {
        Book book = withText();
        book.on(5);
        int insert = book.insert(0, Book.of(1), 5);
        int lost = book.insert(0, Book.of(9), 5);
        book.on(4);
        book.amend(insert);
        book.amend(lost);
        book.law.look(5, 0, 0);
        book.reads(0, "1 2 1 2");
        Check.same("one that inserts nothing is done", book.law.state(insert), Amendmark.DONE);
        Check.same("the searched ones are searched all the same", book.law.state(lost), Amendmark.FAILED);
    }

    /** By the days on which they commence, then by their numbers. */
    private static void order() {
        Book book = withText();
        book.on(7);
        book.insert(0, Book.of(), 7);
        book.on(5);
        book.insert(0, Book.of(), 5);
        book.law.terms(Amendmark.WITH, 1, 7, NONE);
        book.insert(0, Book.of(), 6);
        book.on(5);
        book.insert(0, Book.of(), 8);
        book.law.terms(Amendmark.WITH, 3, 7, NONE);
        book.insert(0, Book.of(), 9);
        book.law.look(7, 0, 0);
        book.reads(0, "1 2 1 2 5 8 7 6 9");
    }

    private static void commencesWithOneThatIsNotInEffect() {
        Book book = withText();
        book.law.terms(Amendmark.ON_DAY, 3, 1, 6);
        int struck = book.insert(0, Book.of(), 5);
        book.law.terms(Amendmark.WITH, struck, 7, NONE);
        int with = book.insert(0, Book.of(), 6);
        book.law.strike(struck, 0);
        book.law.look(3, 0, 0);
        book.stands("did");
        book.law.look(7, 0, 1);
        book.stands("did");
        Check.same("the day", book.law.commences(with), 3);
        book.law.look(2, 0, 1);
        book.stands("dii");
    }

    private static void territoriesAndSunsets() {
        for (int territory = 0; territory < 3; territory++) {
            for (int set = 1; set <= 7; set++) {
                Book book = new Book();
                book.law.act();
                book.law.terms(Amendmark.ON_DAY, 2, set, 5);
                book.enact(NONE, 1);
                for (int day = 0; day < 8; day++) {
                    boolean due = (set & (1 << territory)) != 0 && day >= 2 && day < 5;
                    Check.same("set " + set + " on " + day + " in " + territory, book.law.look(day, 0, territory), due ? 1 : 0);
                }
            }
        }
    }

    public static void main(String[] args) {
        enactAtTheTopAndIn();
        enactInOneThatComesLater();
        insertBehindTheFirstPlace();
        substituteEachTime();
        substituteWithoutCommonWords();
        substituteUpToTwelveWords();
        omitToTheEnd();
        wordsOfOneThatIsNotThere();
        renumberBesideAnother();
        moveInAndOut();
        moveBesideItsLabel();
        repealWithAllInIt();
        repealAgainstTheNumbers();
        amendAhead();
        amendTheFirstInstruction();
        amendTooLate();
        amendTwice();
        amendOfOneNotInEffect();
        amendedWordsThatHaveNoRoom();
        amendedToNoWords();
        order();
        commencesWithOneThatIsNotInEffect();
        territoriesAndSunsets();
        Check.end();
    }
}
