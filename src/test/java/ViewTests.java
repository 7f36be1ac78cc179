/** Promises 11 to 23: the view and what can be asked of it. */
final class ViewTests {
    private static final int NONE = Amendmark.NONE;

    private static Book withAct() {
        Book book = new Book();
        book.law.act();
        return book;
    }

    private static void promise11Look() {
        Book book = withAct();
        Amendmark law = book.law;
        Check.argument("day -1", () -> law.look(-1, 0, 0));
        Check.argument("day 5001", () -> law.look(5001, 0, 0));
        Check.argument("known -1", () -> law.look(0, -1, 0));
        Check.argument("known tomorrow", () -> law.look(0, 1, 0));
        Check.argument("territory -1", () -> law.look(0, 0, -1));
        Check.argument("territory 3", () -> law.look(0, 0, 3));
        Check.same("none", law.look(5000, 0, 2), 0);
        law.terms(Amendmark.ON_DAY, 5000, 4, NONE);
        book.enact(NONE, 1);
        book.lists("0");
        Check.argument("day 5001", () -> law.look(5001, 0, 2));
        Check.argument("territory 3", () -> law.look(0, 0, 3));
        book.lists("0");
        Check.same("a day ahead", law.look(4999, 0, 2), 0);
        Check.same("another territory", law.look(5000, 0, 1), 0);
        Check.same("one", law.look(5000, 0, 2), 1);
    }

    /** What is made later on, on the day of its knowledge, is in the view; what is made on a later day is not. */
    private static void promise11Knowledge() {
        Book book = withAct();
        Amendmark law = book.law;
        law.look(9, 0, 0);
        book.enact(NONE, 1);
        book.lists("0");
        law.terms(Amendmark.BY_ORDER, 0, 7, NONE);
        book.enact(NONE, 2);
        book.lists("0");
        law.order(1, 9);
        book.lists("0 1");
        law.suspend(0, 9, 9);
        book.lists("1");
        law.strike(1, 9);
        book.lists("");
        law.pass(1);
        Check.same("none on the day of the look", law.look(9, 0, 0), 0);
        law.act();
        book.on(0);
        book.enact(NONE, 3);
        book.lists("");
        Check.same("known today", law.look(9, 1, 0), 1);
        law.pass(1);
        law.act();
        book.enact(NONE, 4);
        book.lists("2");
        law.strike(2, 0);
        book.lists("2");
        Check.same("still known then", law.look(9, 1, 0), 1);
        Check.same("struck down as known today", law.look(9, 2, 0), 1);
        book.lists("3");
    }

    private static void promise12ProvisionAt() {
        Book book = withAct();
        Amendmark law = book.law;
        int[][] labels = {{6, 0}, {5, 2}, {5, 29}, {5, 28}, {5, 1}, {5, 0}, {5, 53}, {5, 26}, {5, 728}, {99, 0}, {4, 728}};
        for (int[] label : labels) {
            law.enact(NONE, label[0], label[1]);
        }
        book.lists("10 5 4 3 2 6 1 7 8 0 9");
        law.enact(5, 7, 0);
        law.enact(5, 6, 3);
        law.enact(11, 1, 0);
        law.enact(9, 1, 0);
        book.lists("10 5 12 11 13 4 3 2 6 1 7 8 0 9 14");
        Check.index("place -1", () -> law.provisionAt(-1));
        Check.index("the least place", () -> law.provisionAt(Integer.MIN_VALUE));
        Check.same("place 14", law.provisionAt(14), 14);
        Check.same("place 15", law.provisionAt(15), NONE);
        Check.same("the largest place", law.provisionAt(Integer.MAX_VALUE), NONE);
    }

    /** Twenty provisions, each in the one ahead of it. */
    private static void promise12DeepTree() {
        Book book = withAct();
        for (int p = 0; p < 20; p++) {
            book.enact(p - 1, 1);
        }
        book.lists("0 1 2 3 4 5 6 7 8 9 10 11 12 13 14 15 16 17 18 19");
        book.move(0, 19);
        Check.same("not into itself", book.law.state(20), Amendmark.FAILED);
        book.move(19, NONE);
        Check.same("not beside its label", book.law.state(21), Amendmark.FAILED);
        book.repeal(10);
        book.lists("0 1 2 3 4 5 6 7 8 9");
    }

    private static void promise13To15OfAProvision() {
        Book book = withAct();
        Amendmark law = book.law;
        Check.index("label of none", () -> law.label(0));
        Check.index("parent of none", () -> law.parent(0));
        Check.index("words of none", () -> law.words(0));
        law.enact(NONE, 99, 728);
        book.enact(0, 1, 7, 7, 7, 7);
        book.on(5);
        book.enact(1, 2);
        Check.same("label of 0", law.label(0), 99728);
        Check.same("label of 1", law.label(1), 1000);
        Check.same("label of one that is not there", law.label(2), NONE);
        Check.same("parent of 0", law.parent(0), NONE);
        Check.same("parent of 1", law.parent(1), 0);
        Check.same("parent of one that is not there", law.parent(2), NONE);
        Check.same("words of 0", law.words(0), 0);
        Check.same("words of 1", law.words(1), 4);
        Check.same("words of one that is not there", law.words(2), NONE);
        law.look(5, 0, 0);
        Check.same("parent of 2", law.parent(2), 1);
        book.on(6);
        book.repeal(1);
        law.look(6, 0, 0);
        Check.same("label of one repealed", law.label(1), NONE);
        Check.same("parent of one repealed", law.parent(1), NONE);
        Check.same("words of one repealed", law.words(1), NONE);
        Check.same("label in one repealed", law.label(2), NONE);
        Check.same("parent in one repealed", law.parent(2), NONE);
        int[] wrong = {3, -1, 20, Integer.MAX_VALUE, Integer.MIN_VALUE};
        for (int provision : wrong) {
            Check.index("label of " + provision, () -> law.label(provision));
            Check.index("parent of " + provision, () -> law.parent(provision));
            Check.index("words of " + provision, () -> law.words(provision));
        }
    }

    private static void promise16To19Places() {
        Book book = withAct();
        Amendmark law = book.law;
        book.enact(NONE, 1, 0, 99);
        book.on(5);
        book.enact(NONE, 2, 3);
        int[][] wrong = {{0, 2}, {0, -1}, {0, 12}, {1, 0}, {2, 0}, {-1, 0}, {0, Integer.MIN_VALUE}, {0, Integer.MAX_VALUE}};
        for (int[] at : wrong) {
            Check.index("wordAt " + at[0] + " " + at[1], () -> law.wordAt(at[0], at[1]));
            Check.index("origin " + at[0] + " " + at[1], () -> law.origin(at[0], at[1]));
            Check.index("refers " + at[0] + " " + at[1], () -> law.refers(at[0], at[1]));
        }
        Check.same("the first word", law.wordAt(0, 0), 0);
        Check.same("the last word", law.wordAt(0, 1), 99);
        Check.same("it is no reference", law.refers(0, 1), NONE);
    }

    private static void promise17WordAnew() {
        Book book = withAct();
        Amendmark law = book.law;
        Check.index("no provision", () -> law.wordAnew(0, 0));
        book.enact(NONE, 1, 1, 2, 1, 2);
        book.enact(0, 1, 9);
        book.on(3);
        int insert = book.insert(0, Book.of(2), 5, 5);
        book.on(2);
        book.amend(insert, 6);
        book.on(5);
        book.substitute(0, Book.of(1), 7, 8);
        book.insert(1, Book.of(), 1);
        book.on(6);
        book.omit(0, 2, 7);
        book.on(8);
        book.repeal(0);
        String[] due = {"1 2 1 2", "1 2 1 2", "1 2 1 2", "1 2 6 1 2", "1 2 6 1 2", "7 8 2 6 7 8 2", "7 8 2 6 7 8 2",
            "7 8 2 6 7 8 2", ""};
        for (int day = 0; day < due.length; day++) {
            law.look(day, 0, 0);
            String got = anew(law, 0, 13);
            Check.holds("anew on " + day + ": " + got, got.equals(due[day]));
        }
        Check.same("in one repealed", law.wordAnew(1, 0), NONE);
        law.look(7, 0, 0);
        Check.same("in another", law.wordAnew(1, 1), 1);
        Check.same("no such place", law.wordAnew(0, 7), NONE);
        Check.same("no place at all", law.wordAnew(0, Integer.MAX_VALUE), NONE);
        Check.index("place -1", () -> law.wordAnew(0, -1));
        Check.index("provision 2", () -> law.wordAnew(2, 0));
        Check.index("provision -1", () -> law.wordAnew(-1, 0));
    }

    private static String anew(Amendmark law, int provision, int places) {
        StringBuilder text = new StringBuilder();
        for (int k = 0; k < places && law.wordAnew(provision, k) != NONE; k++) {
            text.append(k == 0 ? "" : " ").append(law.wordAnew(provision, k));
        }
        return text.toString();
    }

    private static void promise18Origin() {
        Book book = withAct();
        book.enact(NONE, 1, 1, 2, 1, 2);
        book.on(4);
        int last = book.insert(0, Book.of(), 4);
        book.on(2);
        book.insert(0, Book.of(1), 5);
        book.substitute(0, Book.of(2, 1), 2, 1);
        book.on(1);
        int amend = book.amend(last, 6, 6);
        book.law.look(4, 0, 0);
        book.reads(0, "1 5 2 1 2 6 6");
        Check.holds("origins " + book.origins(0), book.origins(0).equals("0 2 3 3 0 1 1"));
        book.law.strike(amend, 0);
        Check.holds("origins " + book.origins(0), book.origins(0).equals("0 2 3 3 0 1"));
        book.law.strike(3, 4);
        Check.holds("origins " + book.origins(0), book.origins(0).equals("0 2 0 0 0 1"));
    }

    /** Words that are shifted take their origins along. */
    private static void promise18OriginOfShiftedWords() {
        Book book = withAct();
        book.enact(NONE, 1, 1, 2);
        book.insert(0, Book.of(), 3);
        book.insert(0, Book.of(), 4);
        book.insert(0, Book.of(1), 5, 5);
        Check.holds("origins " + book.origins(0), book.origins(0).equals("0 3 3 0 1 2"));
        book.substitute(0, Book.of(5, 5), 6);
        Check.holds("origins " + book.origins(0), book.origins(0).equals("0 4 0 1 2"));
        book.substitute(0, Book.of(2));
        Check.holds("origins " + book.origins(0), book.origins(0).equals("0 4 1 2"));
        book.reads(0, "1 6 3 4");
    }

    private static void promise19ReferencesThatFollow() {
        Book book = withAct();
        Amendmark law = book.law;
        book.enact(NONE, 1, 100, 101, 119, 99);
        book.on(3);
        book.enact(NONE, 2);
        book.on(5);
        book.renumber(1, 9);
        book.on(7);
        book.repeal(1);
        Check.same("to itself", law.refers(0, 0), 1000);
        Check.same("to one that is not there yet", law.refers(0, 1), NONE);
        Check.same("to one that is not made", law.refers(0, 2), NONE);
        Check.same("of no reference", law.refers(0, 3), NONE);
        int[] due = {NONE, NONE, NONE, 2000, 2000, 9000, 9000, NONE};
        for (int day = 0; day < due.length; day++) {
            law.look(day, 0, 0);
            Check.same("on " + day, law.refers(0, 1), due[day]);
        }
    }

    private static void promise19FrozenReferences() {
        Book book = withAct();
        Amendmark law = book.law;
        book.enact(NONE, 1);
        book.enact(NONE, 2, 120, 121, 139);
        book.on(4);
        book.insert(1, Book.of(), 120);
        book.on(3);
        book.renumber(0, 5);
        book.on(4);
        book.renumber(0, 6);
        book.on(6);
        book.renumber(0, 7);
        book.insert(1, Book.of(), 120);
        law.look(6, 0, 0);
        Check.same("of the day 0", law.refers(1, 0), 1000);
        Check.same("to itself", law.refers(1, 1), 2000);
        Check.same("to one that is not made", law.refers(1, 2), NONE);
        Check.same("of the day 4", law.refers(1, 3), 6000);
        Check.same("of the day 6", law.refers(1, 4), 7000);
        law.pass(2);
        law.strike(4, 6);
        law.look(6, 2, 0);
        Check.same("struck down from a later day on", law.refers(1, 3), 6000);
        Check.same("the last one stands", law.refers(1, 4), 7000);
        law.pass(1);
        law.strike(5, 5);
        law.look(6, 2, 0);
        Check.same("as was known", law.refers(1, 4), 7000);
        law.look(6, 3, 0);
        Check.same("as is known, of the day 4", law.refers(1, 3), 6000);
        Check.same("as is known, of the day 6", law.refers(1, 4), 5000);
        Check.same("as is known", law.label(0), 5000);
        law.suspend(3, 6, 6);
        Check.same("suspended on the day 6", law.refers(1, 4), 1000);
        law.look(6, 2, 0);
        Check.same("as was known", law.refers(1, 3), 6000);
        // The view is still that of the look.
        Check.same("the view stays", law.label(0), 7000);
    }

    /** The words that an AMEND tells are frozen on the day of the instruction that puts them in. */
    private static void promise19FrozenByAnAmend() {
        Book book = withAct();
        Amendmark law = book.law;
        book.enact(NONE, 1);
        book.on(6);
        int insert = book.insert(0, Book.of(), 3);
        book.on(2);
        book.amend(insert, 120);
        law.terms(Amendmark.ON_DAY, 4, 1, NONE);
        book.renumber(0, 2);
        book.on(7);
        book.renumber(0, 3);
        law.look(8, 0, 0);
        Check.same("frozen on 6", law.refers(0, 0), 2000);
        law.look(8, 0, 1);
        Check.same("of the same territory", law.refers(0, 0), 1000);
        Check.same("the label now", law.label(0), 3000);
    }

    private static void promise19FrozenByAnOrder() {
        Book book = withAct();
        Amendmark law = book.law;
        book.enact(NONE, 1);
        law.terms(Amendmark.BY_ORDER, 0, 7, NONE);
        int insert = book.insert(0, Book.of(), 120);
        law.terms(Amendmark.WITH, insert, 7, NONE);
        book.insert(0, Book.of(), 120);
        book.on(6);
        book.renumber(0, 2);
        law.pass(5);
        law.order(insert, 6);
        law.look(9, 5, 0);
        Check.same("on the day of the order", law.refers(0, 0), 2000);
        Check.same("with it", law.refers(0, 1), 2000);
        law.look(9, 4, 0);
        Check.index("not known", () -> law.refers(0, 0));
    }

    /** Whoever is suspended on the day on which a reference freezes has no part in it. */
    private static void promise19FrozenWhileSuspended() {
        Book book = withAct();
        Amendmark law = book.law;
        book.enact(NONE, 1);
        book.renumber(0, 2);
        book.on(5);
        book.enact(NONE, 1, 120);
        law.suspend(1, 3, 5);
        law.suspend(0, 20, 30);
        law.look(5, 0, 0);
        Check.same("no room while suspended", law.state(2), Amendmark.FAILED);
        law.look(9, 0, 0);
        Check.same("label now", law.label(0), 2000);
        Check.same("frozen", law.refers(1, 0), 1000);
        law.look(25, 0, 0);
        Check.same("frozen while it is gone itself", law.refers(1, 0), 1000);
    }

    private static void promise20And21OfAnInstruction() {
        Book book = withAct();
        Amendmark law = book.law;
        Check.index("state of none", () -> law.state(0));
        Check.index("commences of none", () -> law.commences(0));
        book.on(4);
        book.enact(NONE, 1);
        law.terms(Amendmark.BY_ORDER, 0, 2, NONE);
        book.enact(NONE, 2);
        law.terms(Amendmark.WITH, 1, 4, 3);
        book.enact(NONE, 3);
        law.pass(10);
        law.act();
        law.terms(Amendmark.WITH, 2, 1, NONE);
        book.repeal(0);
        book.stands("iiii");
        Check.same("on a day", law.commences(0), 4);
        Check.same("waits for an order", law.commences(1), NONE);
        Check.same("with it", law.commences(2), NONE);
        Check.same("not known", law.commences(3), NONE);
        law.order(1, 7);
        law.look(6, 9, 0);
        Check.same("the order is not known", law.commences(1), NONE);
        law.look(6, 10, 0);
        Check.same("whatever the day of the view", law.commences(1), 7);
        Check.same("whatever the territories and the sunset", law.commences(2), 7);
        Check.same("with one that is with another", law.commences(3), 7);
        book.stands("diii");
        law.look(7, 10, 0);
        book.stands("diid");
        law.look(7, 10, 1);
        book.stands("ddii");
        law.strike(1, 0);
        law.suspend(0, 0, 5000);
        book.stands("iiii");
        Check.same("also struck down", law.commences(1), 7);
        law.look(7, 10, 0);
        book.stands("iiif");
        int[] wrong = {4, -1, 40, Integer.MAX_VALUE, Integer.MIN_VALUE};
        for (int instruction : wrong) {
            Check.index("state of " + instruction, () -> law.state(instruction));
            Check.index("commences of " + instruction, () -> law.commences(instruction));
        }
    }

    private static void promise22Conflicts() {
        Book book = withAct();
        Amendmark law = book.law;
        book.enact(NONE, 1, 1);
        book.enact(NONE, 2, 1);
        book.on(5);
        book.insert(0, Book.of(), 2);
        book.insert(0, Book.of(), 3);
        book.omit(0, 9);
        book.renumber(1, 3);
        law.look(6, 0, 0);
        Check.same("none in one act", law.conflicts(), 0);
        law.act();
        int insert = book.insert(0, Book.of(1), 4);
        Check.same("one with two", law.conflicts(), 2);
        book.move(1, NONE);
        Check.same("of another provision", law.conflicts(), 3);
        book.on(6);
        book.insert(0, Book.of(1), 4);
        Check.same("on another day", law.conflicts(), 3);
        book.on(5);
        book.insert(0, Book.of(9), 4);
        Check.same("one that failed", law.conflicts(), 3);
        book.amend(1, 5);
        book.amend(0, 5);
        Check.same("an AMEND has none", law.conflicts(), 3);
        law.act();
        book.substitute(0, Book.of(3), 8);
        Check.same("of three acts", law.conflicts(), 6);
        law.look(4, 0, 0);
        Check.same("not yet", law.conflicts(), 0);
        law.look(5, 0, 0);
        Check.same("on the day", law.conflicts(), 6);
        law.strike(insert, 5);
        Check.same("struck down", law.conflicts(), 3);
    }

    /** An ENACT conflicts with none, nor does an AMEND of the instruction with the provision's number. */
    private static void promise22NeitherEnactNorAmend() {
        Book book = withAct();
        book.enact(NONE, 1, 1);
        book.law.act();
        book.insert(0, Book.of(), 2);
        Check.same("an ENACT", book.law.conflicts(), 0);
        book.on(3);
        book.insert(0, Book.of(), 2);
        book.law.strike(0, 3);
        book.law.act();
        book.law.look(3, 0, 0);
        book.amend(0, 7);
        Check.same("an AMEND of the instruction 0 is done", book.law.state(3), Amendmark.DONE);
        Check.same("an AMEND", book.law.conflicts(), 0);
        Book other = withAct();
        other.enact(NONE, 1, 1);
        other.on(3);
        other.insert(0, Book.of(), 2);
        other.law.act();
        other.law.terms(Amendmark.BY_ORDER, 0, 7, NONE);
        other.repeal(0);
        other.law.order(2, 3);
        other.law.look(3, 0, 0);
        Check.same("a REPEAL does", other.law.conflicts(), 1);
    }

    private static void promise23Print() {
        Book book = withAct();
        Amendmark law = book.law;
        Check.same("nothing", law.print(), 11);
        law.enact(NONE, 2, 1);
        Check.same("without words", law.print(), fold(0, 2001, 0));
        book.enact(NONE, 1, 100, 7);
        book.insert(1, Book.of(), 139);
        book.enact(0, 3, 5);
        Check.same("with words", law.print(), fold(1, 1000, 3, 100, 1, 7, 1, 139, 2, 0, 2001, 0, 2, 3000, 1, 5, 3));
        book.repeal(0);
        Check.same("without one", law.print(), fold(1, 1000, 3, 100, 1, 7, 1, 139, 2));
        for (int k = 0; k < 8; k++) {
            book.insert(1, Book.of(), 1);
        }
        long due = fold(1, 1000, 11, 100, 1, 7, 1, 139, 2, 1, 5, 1, 6, 1, 7, 1, 8, 1, 9, 1, 10, 1, 11, 1, 12);
        Check.same("with overflow", law.print(), due);
        law.look(5, 0, 1);
        Check.same("again", law.print(), due);
    }

    private static long fold(int... numbers) {
        long print = 11;
        for (int number : numbers) {
            print = 31 * print + number;
        }
        return print;
    }

    public static void main(String[] args) {
        promise11Look();
        promise11Knowledge();
        promise12ProvisionAt();
        promise12DeepTree();
        promise13To15OfAProvision();
        promise16To19Places();
        promise17WordAnew();
        promise18Origin();
        promise18OriginOfShiftedWords();
        promise19ReferencesThatFollow();
        promise19FrozenReferences();
        promise19FrozenByAnAmend();
        promise19FrozenByAnOrder();
        promise19FrozenWhileSuspended();
        promise20And21OfAnInstruction();
        promise22Conflicts();
        promise22NeitherEnactNorAmend();
        promise23Print();
        Check.end();
    }
}
