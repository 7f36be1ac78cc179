import java.util.List;

/** The edges that the document's Exceptions name: which one is thrown, and that a call that throws changes nothing. */
final class RefusalEdges {
    private static final int NONE = Amendmark.NONE;
    private static final int LEAST = Integer.MIN_VALUE, LARGEST = Integer.MAX_VALUE;
    private static final Class<?> INDEX = IndexOutOfBoundsException.class;
    private static final Class<?> ARGUMENT = IllegalArgumentException.class;
    private static final Class<?> STATE = IllegalStateException.class;

    private interface Maker {
        Book make();
    }

    private interface Refused {
        long by(Book book);
    }

    private RefusalEdges() {
    }

    static void run() {
        Doc.open("Exceptions");
        noSuchOne();
        outOfRange();
        Doc.tells("IllegalStateException: as the method tells.");
        theOneNamedFirst();
        firstOfInstruct();
        changesNothing();
        constants();
        headings();
    }

    private static void noSuchOne() {
        Doc.says("IndexOutOfBoundsException: there is no such act, instruction, provision or place.");
        Book book = Book.withText(1);
        for (int none : new int[] {NONE, 1, 20, 40, LEAST, LARGEST}) {
            Check.index("instruction " + none, () -> book.law.state(none));
            Check.index("provision " + none, () -> book.law.label(none));
            Check.index("place " + none, () -> book.law.wordAt(0, none));
        }
        Check.same("the instruction 0", book.law.state(0), Amendmark.DONE);
        Check.same("the provision 0", book.law.label(0), 1000);
        Check.same("the place 0", book.law.wordAt(0, 0), 1);
    }

    private static void outOfRange() {
        Doc.says("IllegalArgumentException: another argument is out of its range.");
        Book book = Book.withText(1);
        for (int wrong : new int[] {-3, LEAST, LARGEST, 6000}) {
            Check.argument("days " + wrong, () -> book.law.pass(wrong));
            Check.argument("how " + wrong, () -> book.terms(wrong, 0, 7, NONE));
            Check.argument("word " + wrong, () -> book.law.word(wrong, true));
            Check.argument("number " + wrong, () -> book.law.enact(NONE, wrong, 0));
            Check.argument("kind " + wrong, () -> book.law.instruct(wrong, 0, 1, 0));
            Check.argument("day " + wrong, () -> book.law.look(wrong, 0, 0));
        }
    }

    private static void theOneNamedFirst() {
        Doc.says("If several apply, the one that is named first in the throws clause is thrown;");
        Check.argument("pass", () -> ended().law.pass(501));
        Check.argument("pass of 0", () -> ended().law.pass(0));
        Check.index("terms", () -> open().terms(Amendmark.WITH, 99, 0, -2));
        Check.argument("a new word", () -> ended().law.word(140, true));
        Check.argument("a searched word", () -> ended().law.word(-1, false));
        for (Maker maker : makers()) {
            Check.index("enact in 20, the number 0", () -> maker.make().law.enact(20, 0, 0));
            Check.index("enact in 20", () -> maker.make().law.enact(20, 1, 0));
            Check.argument("enact of 0", () -> maker.make().law.enact(NONE, 0, 0));
            Check.argument("enact of letters", () -> maker.make().law.enact(NONE, 1, 54));
            Check.index("order of none", () -> maker.make().order(40, -1));
            Check.argument("order of one that does not wait", () -> maker.make().order(0, 5001));
            Check.index("strike of none", () -> maker.make().strike(40, -1));
            Check.argument("strike once more", () -> maker.make().strike(2, -1));
            Check.index("suspend of none", () -> maker.make().suspend(40, 5, 4));
            Check.argument("suspend once more", () -> maker.make().suspend(2, 5, 4));
        }
    }

    /** Of instruct, also where no act was made today, there is no room, and the words are not those of the kind. */
    private static void firstOfInstruct() {
        for (Maker maker : makers()) {
            for (int kind = Amendmark.INSERT; kind <= Amendmark.AMEND; kind++) {
                int one = kind;
                Check.index("kind " + kind + " of 40", () -> maker.make().law.instruct(one, 40, 0, 27));
            }
            Check.index("MOVE to 20", () -> maker.make().law.instruct(Amendmark.MOVE, 0, 20, 0));
            Check.index("kind 8 of the provision 20", () -> maker.make().law.instruct(8, 20, 0, 0));
            Check.argument("kind 8", () -> maker.make().law.instruct(8, 0, 1, 0));
            Check.argument("ENACT", () -> maker.make().law.instruct(Amendmark.ENACT, 0, 1, 0));
            Check.argument("RENUMBER to 0", () -> maker.make().renumber(0, 0));
            Check.argument("RENUMBER to letters", () -> maker.make().law.instruct(Amendmark.RENUMBER, 0, 1, 27));
        }
    }

    private static Maker[] makers() {
        return new Maker[] {RefusalEdges::open, RefusalEdges::yesterday, RefusalEdges::ended};
    }

    /**
     * On the day 3, with an act of that day: the provisions 0 and 1; the instruction 2 is struck down and suspended,
     * 3 has an order, 4 waits for one. A searched word and two new ones are told.
     */
    private static Book open() {
        Book book = Book.withText(1, 2);
        book.enact(0, 2, 100);
        book.insert(0, Book.of(), 3);
        book.withOrder();
        book.insert(0, Book.of(), 4);
        book.insert(0, Book.of(), 5);
        book.strike(2, 4000);
        book.suspend(2, 2, 2);
        book.order(3, 6);
        book.law.pass(3);
        book.law.act();
        book.law.look(7, 2, 1);
        book.terms(Amendmark.ON_DAY, 2, 6, 4500);
        book.say(Book.of(2), Book.of(7, 121));
        return book;
    }

    /** The same, a day later. */
    private static Book yesterday() {
        Book book = open();
        book.law.pass(1);
        return book;
    }

    /** As many as there can be of days, acts, provisions, instructions and words. */
    private static Book ended() {
        Book book = Book.withText(1, 2);
        for (int p = 1; p < 20; p++) {
            book.enact(p % 3 - 1, p + 1, 100 + p);
        }
        for (int i = 20; i < 39; i++) {
            book.insert(i - 20, Book.of(), 120 + i - 20);
        }
        book.withOrder();
        book.renumber(19, 77);
        book.strike(2, 4000);
        book.suspend(2, 2, 2);
        for (int k = 0; k < 10; k++) {
            book.law.pass(500);
        }
        for (int k = 1; k < 10; k++) {
            book.law.act();
        }
        book.law.look(3999, 4999, 1);
        book.say(Book.of(1, 2, 1, 2), Book.of(5, 6, 7, 8));
        return book;
    }

    private static void changesNothing() {
        Doc.says("a call that throws changes nothing.");
        for (Maker maker : makers()) {
            refusedEverywhere(maker);
            refusedForWords(maker);
        }
        for (Maker maker : new Maker[] {RefusalEdges::yesterday, RefusalEdges::ended}) {
            refused("an INSERT", maker, STATE, book -> book.law.instruct(Amendmark.INSERT, 0, 0, 0));
            refused("a SUBSTITUTE", maker, STATE, book -> book.law.instruct(Amendmark.SUBSTITUTE, 0, 0, 0));
        }
        refused("pass beyond the last day", RefusalEdges::ended, STATE, book -> book.law.pass(1));
        refused("an eleventh act", RefusalEdges::ended, STATE, book -> book.law.act());
        refused("a fifth new word", RefusalEdges::ended, STATE, book -> book.law.word(9, true));
        refused("a fifth searched word", RefusalEdges::ended, STATE, book -> book.law.word(9, false));
        refused("a second order", RefusalEdges::open, STATE, book -> book.order(3, 1));
        refused("an order for one that has a day", RefusalEdges::open, STATE, book -> book.order(0, 1));
    }

    private static void refusedEverywhere(Maker maker) {
        refused("pass(0)", maker, ARGUMENT, book -> book.law.pass(0));
        refused("pass(-1)", maker, ARGUMENT, book -> book.law.pass(-1));
        refused("pass(501)", maker, ARGUMENT, book -> book.law.pass(501));
        refused("terms with none", maker, INDEX, book -> book.terms(Amendmark.WITH, 40, 1, 1));
        refused("terms how", maker, ARGUMENT, book -> book.terms(3, 1, 1, 1));
        refused("terms on no day", maker, ARGUMENT, book -> book.terms(Amendmark.ON_DAY, 5001, 1, 1));
        refused("terms in none", maker, ARGUMENT, book -> book.terms(Amendmark.ON_DAY, 1, 0, 1));
        refused("terms until no day", maker, ARGUMENT, book -> book.terms(Amendmark.ON_DAY, 1, 1, 5001));
        refused("terms with one, until no day", maker, ARGUMENT, book -> book.terms(Amendmark.WITH, 1, 1, -2));
        refused("a word", maker, ARGUMENT, book -> book.law.word(140, true));
        refused("a searched word", maker, ARGUMENT, book -> book.law.word(-1, false));
        refused("enact in none", maker, INDEX, book -> book.law.enact(20, 9, 9));
        refused("enact of no number", maker, ARGUMENT, book -> book.law.enact(NONE, 100, 9));
        refused("enact of no letters", maker, ARGUMENT, book -> book.law.enact(NONE, 9, 27));
        refused("instruct of none", maker, INDEX, book -> book.law.instruct(Amendmark.SUBSTITUTE, 20, 1, 0));
        refused("instruct of no kind", maker, ARGUMENT, book -> book.law.instruct(0, 0, 1, 0));
        refused("instruct of no number", maker, ARGUMENT, book -> book.law.instruct(Amendmark.RENUMBER, 0, 100, 0));
        refused("order of none", maker, INDEX, book -> book.order(40, 1));
        refused("order on no day", maker, ARGUMENT, book -> book.order(4, 5001));
        refused("strike of none", maker, INDEX, book -> book.strike(40, 1));
        refused("strike on no day", maker, ARGUMENT, book -> book.strike(0, -1));
        refused("a second strike", maker, STATE, book -> book.strike(2, 1));
        refused("suspend of none", maker, INDEX, book -> book.suspend(40, 1, 2));
        refused("suspend to a day ahead", maker, ARGUMENT, book -> book.suspend(0, 2, 1));
        refused("suspend to no day", maker, ARGUMENT, book -> book.suspend(0, 0, 5001));
        refused("a second suspension", maker, STATE, book -> book.suspend(2, 0, 5000));
        refused("look on no day", maker, ARGUMENT, book -> book.law.look(5001, 0, 0));
        refused("look of tomorrow", maker, ARGUMENT, book -> book.law.look(0, 5001, 0));
        refused("look nowhere", maker, ARGUMENT, book -> book.law.look(0, 0, 3));
        refused("wordAt", maker, INDEX, book -> book.law.wordAt(0, 12));
        refused("wordAnew", maker, INDEX, book -> book.law.wordAnew(0, -1));
        refused("refers", maker, INDEX, book -> book.law.refers(20, 0));
    }

    /** Searched words and new ones are told, which only an INSERT and a SUBSTITUTE can have. */
    private static void refusedForWords(Maker maker) {
        refused("an ENACT", maker, STATE, book -> book.law.enact(NONE, 9, 9));
        refused("an OMIT", maker, STATE, book -> book.law.instruct(Amendmark.OMIT, 0, 0, 0));
        refused("a RENUMBER", maker, STATE, book -> book.law.instruct(Amendmark.RENUMBER, 0, 9, 9));
        refused("a MOVE", maker, STATE, book -> book.law.instruct(Amendmark.MOVE, 1, NONE, 0));
        refused("a REPEAL", maker, STATE, book -> book.law.instruct(Amendmark.REPEAL, 0, 0, 0));
        refused("an AMEND", maker, STATE, book -> book.law.instruct(Amendmark.AMEND, 4, 0, 0));
    }

    private static void refused(String what, Maker maker, Class<?> due, Refused call) {
        Book left = maker.make();
        Book right = maker.make();
        Check.refuses(what, () -> call.by(right), due);
        String dueAll = all(left);
        String gotAll = all(right);
        Check.holds(what + " changes nothing; " + gotAll + ", due is " + dueAll, gotAll.equals(dueAll));
    }

    private static String answer(Book book, Refused call) {
        try {
            return call.by(book) + " ";
        } catch (IndexOutOfBoundsException | IllegalArgumentException | IllegalStateException e) {
            return e.getClass().getSimpleName() + " ";
        }
    }

    private static void view(Book book, StringBuilder text) {
        text.append(book.law.print()).append(' ').append(book.law.conflicts()).append(' ').append(book.code()).append(' ');
        for (int k = 0; k < 40; k++) {
            int i = k;
            text.append(answer(book, one -> one.law.state(i))).append(answer(book, one -> one.law.commences(i)));
            text.append(answer(book, one -> one.law.refers(i / 2, i % 2))).append(answer(book, one -> one.law.parent(i / 2)));
        }
    }

    /** What can be told of an object: its view, what it takes yet, with the words told to it, and the views behind that. */
    private static String all(Book book) {
        StringBuilder text = new StringBuilder();
        view(book, text);
        text.append(answer(book, one -> one.law.instruct(Amendmark.SUBSTITUTE, 0, 0, 0)));
        view(book, text);
        for (int k = 0; k < 4; k++) {
            text.append(answer(book, one -> one.law.word(9, true))).append(answer(book, one -> one.law.word(9, false)));
        }
        text.append(answer(book, one -> one.law.instruct(Amendmark.SUBSTITUTE, 0, 0, 0)));
        text.append(answer(book, one -> one.law.enact(NONE, 50, 0)));
        text.append(answer(book, one -> one.law.act()));
        text.append(answer(book, one -> one.law.enact(NONE, 51, 0)));
        for (int i = 0; i < 5; i++) {
            int k = i;
            text.append(answer(book, one -> one.order(k, 1000 + k)));
            text.append(answer(book, one -> one.strike(k, 2000 + k)));
            text.append(answer(book, one -> one.suspend(k, 1500, 1500 + k)));
        }
        text.append(answer(book, one -> one.law.pass(1)));
        for (int day : new int[] {0, 1, 2, 3, 6, 7, 1000, 1004, 1500, 1502, 1999, 2001, 4000, 4499, 4500, 5000}) {
            for (int known : new int[] {2, 3, 4}) {
                text.append(answer(book, one -> one.law.look(day, known, day % 3)));
                view(book, text);
            }
        }
        return text.toString();
    }

    private static void constants() {
        Doc.says("The constants: `NONE = -1`: There is none.");
        Check.same("NONE", Amendmark.NONE, -1);
        Doc.says("`ENACT = 0, INSERT = 1, SUBSTITUTE = 2, OMIT = 3, RENUMBER = 4, MOVE = 5, REPEAL = 6, AMEND = 7`:"
            + " Kinds of instructions.");
        int[] kinds = {Amendmark.ENACT, Amendmark.INSERT, Amendmark.SUBSTITUTE, Amendmark.OMIT, Amendmark.RENUMBER,
            Amendmark.MOVE, Amendmark.REPEAL, Amendmark.AMEND};
        for (int k = 0; k < kinds.length; k++) {
            Check.same("kind " + k, kinds[k], k);
        }
        Doc.says("`ON_DAY = 0, BY_ORDER = 1, WITH = 2`: How instructions commence.");
        Check.same("ON_DAY", Amendmark.ON_DAY, 0);
        Check.same("BY_ORDER", Amendmark.BY_ORDER, 1);
        Check.same("WITH", Amendmark.WITH, 2);
        Doc.says("`IDLE = 0, DONE = 1, FAILED = 2`: What an instruction is in the view.");
        Check.same("IDLE", Amendmark.IDLE, 0);
        Check.same("DONE", Amendmark.DONE, 1);
        Check.same("FAILED", Amendmark.FAILED, 2);
    }

    private static void headings() {
        Doc.says("Ahead of the calls `pass`, `act`, `terms`, `word`, `enact`, `instruct`, `order`, `strike`, `suspend`"
            + " the interface says: ---- days, acts.");
        Check.holds("these stand under it, in their order", Source.callsUnder("days, acts").equals(
            List.of("pass", "act", "terms", "word", "enact", "instruct", "order", "strike", "suspend")));
        Doc.says("Ahead of the calls `look`, `provisionAt`, `label`, `parent`, `words`, `wordAt`, `wordAnew`, `origin`,"
            + " `refers`, `state`, `commences`, `conflicts`, `print` the interface says: ---- views.");
        Check.holds("these stand under it, in their order", Source.callsUnder("views").equals(
            List.of("look", "provisionAt", "label", "parent", "words", "wordAt", "wordAnew", "origin",
                "refers", "state", "commences", "conflicts", "print")));
    }
}
