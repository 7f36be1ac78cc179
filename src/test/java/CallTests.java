/** Promises 1 to 10: the calls by which days go by and acts are made, and what they refuse. */
final class CallTests {
    private static final int NONE = Amendmark.NONE;

    private static Book withAct() {
        Book book = new Book();
        book.law.act();
        return book;
    }

    private static void promise1ANewObject() {
        Amendmark law = new Amendmark();
        Check.same("provisions at first", law.provisionAt(0), NONE);
        Check.same("conflicts at first", law.conflicts(), 0);
        Check.same("print at first", law.print(), 11);
        Check.index("label of none", () -> law.label(0));
        Check.index("state of none", () -> law.state(0));
        Check.state("no act at first", () -> law.enact(NONE, 1, 0));
        // The view is of the day 0, known on the day 0, of the territory 0, ahead of any look.
        Book book = withAct();
        book.enact(NONE, 1, 5);
        book.law.terms(Amendmark.ON_DAY, 0, 1, NONE);
        book.enact(NONE, 2, 6);
        book.law.terms(Amendmark.ON_DAY, 0, 6, NONE);
        book.enact(NONE, 3, 7);
        book.law.terms(Amendmark.ON_DAY, 1, 7, NONE);
        book.enact(NONE, 4, 8);
        book.lists("0 1");
        book.law.pass(1);
        book.law.act();
        book.on(0);
        book.enact(NONE, 5, 9);
        book.lists("0 1");
    }

    private static void promise2Pass() {
        Amendmark law = new Amendmark();
        Check.argument("pass(0)", () -> law.pass(0));
        Check.argument("pass(-1)", () -> law.pass(-1));
        Check.argument("pass(501)", () -> law.pass(501));
        Check.argument("pass of the largest", () -> law.pass(Integer.MAX_VALUE));
        Check.argument("pass of the least", () -> law.pass(Integer.MIN_VALUE));
        Check.same("pass(1)", law.pass(1), 1);
        Check.same("pass(499)", law.pass(499), 500);
        for (int k = 2; k <= 9; k++) {
            Check.same("pass(500)", law.pass(500), 500 * k);
        }
        Check.same("pass(499)", law.pass(499), 4999);
        Check.state("pass beyond 5000", () -> law.pass(2));
        Check.argument("out of range ahead of beyond 5000", () -> law.pass(501));
        Check.same("pass to 5000", law.pass(1), 5000);
        Check.state("pass beyond 5000", () -> law.pass(1));
        Check.same("known to today", law.look(0, 5000, 0), 0);
    }

    private static void promise3Act() {
        Amendmark law = new Amendmark();
        for (int k = 0; k < 10; k++) {
            Check.same("act", law.act(), k);
            law.pass(1);
        }
        Check.state("act 10", law::act);
        Check.state("an act of yesterday", () -> law.enact(NONE, 1, 0));
    }

    private static void promise3AnActThatIsRefusedMakesNone() {
        Amendmark law = new Amendmark();
        for (int k = 0; k < 10; k++) {
            law.act();
        }
        law.pass(1);
        Check.state("act 10", law::act);
        Check.state("no act was made today", () -> law.enact(NONE, 1, 0));
    }

    private static void promise4Terms() {
        Book book = withAct();
        Amendmark law = book.law;
        Check.index("with none", () -> terms(law, 2, 0, 7, NONE));
        Check.index("with -1, and wrong territories", () -> terms(law, 2, -1, 0, NONE));
        Check.argument("how 3", () -> terms(law, 3, 0, 7, NONE));
        Check.argument("how -1", () -> terms(law, -1, 0, 7, NONE));
        Check.argument("day -1", () -> terms(law, 0, -1, 7, NONE));
        Check.argument("day 5001", () -> terms(law, 0, 5001, 7, NONE));
        Check.argument("territories 0", () -> terms(law, 0, 0, 0, NONE));
        Check.argument("territories 8", () -> terms(law, 0, 0, 8, NONE));
        Check.argument("sunset -2", () -> terms(law, 0, 0, 7, -2));
        Check.argument("sunset 5001", () -> terms(law, 1, 0, 7, 5001));
        // None of these has changed the terms.
        book.enact(NONE, 1);
        law.look(5000, 0, 2);
        book.stands("d");
        Check.same("the day at first", law.commences(0), 0);
        Check.index("with 1", () -> terms(law, 2, 1, 7, NONE));
        Check.argument("with 0, and wrong territories", () -> terms(law, 2, 0, 8, NONE));
        law.terms(Amendmark.BY_ORDER, 5001, 7, NONE);
        law.terms(Amendmark.BY_ORDER, -7, 7, NONE);
        law.terms(Amendmark.ON_DAY, 5000, 1, 5000);
        law.terms(Amendmark.ON_DAY, 0, 7, 0);
        law.terms(Amendmark.WITH, 0, 4, 9);
        book.enact(NONE, 2);
        book.enact(NONE, 3);
        law.look(8, 0, 2);
        book.stands("ddd");
        law.look(9, 0, 2);
        book.stands("dii");
        law.look(8, 0, 1);
        book.stands("dii");
    }

    private static long terms(Amendmark law, int how, int what, int territories, int sunset) {
        law.terms(how, what, territories, sunset);
        return 0;
    }

    private static void promise5Word() {
        Amendmark law = new Amendmark();
        law.act();
        Check.argument("word(-1)", () -> law.word(-1, true));
        Check.argument("word(140)", () -> law.word(140, false));
        int[] words = {0, 139, 7, 7};
        for (int k = 0; k < 4; k++) {
            Check.same("a new word", law.word(words[k], true), k + 1);
            Check.same("a searched word", law.word(words[k], false), k + 1);
        }
        Check.state("a fifth new word", () -> law.word(1, true));
        Check.state("a fifth searched word", () -> law.word(1, false));
        Check.argument("out of range ahead of a fifth", () -> law.word(140, true));
    }

    private static void promise6Enact() {
        Book book = new Book();
        Amendmark law = book.law;
        Check.state("no act", () -> law.enact(NONE, 1, 0));
        Check.argument("number 0, and no act", () -> law.enact(NONE, 0, 0));
        Check.index("in 0, number 0, and no act", () -> law.enact(0, 0, 0));
        law.act();
        Check.index("in -2", () -> law.enact(-2, 1, 0));
        Check.argument("number 100", () -> law.enact(NONE, 100, 0));
        Check.argument("letters -1", () -> law.enact(NONE, 1, -1));
        Check.argument("letters 729", () -> law.enact(NONE, 1, 729));
        for (int letters = 27; letters <= 729; letters += 27) {
            int wrong = letters;
            Check.argument("letters " + letters, () -> law.enact(NONE, 1, wrong));
        }
        law.word(4, false);
        Check.state("searched words", () -> law.enact(NONE, 1, 0));
        Check.same("they are not gone", law.word(4, false), 2);
    }

    private static void promise6Words() {
        Book book = withAct();
        book.law.word(1, true);
        Check.argument("number 0", () -> book.law.enact(NONE, 0, 0));
        Check.same("the first stays", book.law.word(2, true), 2);
        Check.same("the provision", book.law.enact(NONE, 99, 728), 0);
        Check.same("all are gone", book.law.word(3, true), 1);
        Check.same("the next provision", book.law.enact(0, 1, 26), 1);
        book.reads(0, "1 2");
        book.reads(1, "3");
        Check.same("a label of two letters", book.law.label(0), 99728);
        Check.same("a label of a letter", book.law.label(1), 1026);
        Check.index("in 2", () -> book.law.enact(2, 1, 0));
    }

    private static void promise6Limits() {
        Book book = withAct();
        for (int p = 0; p < 20; p++) {
            Check.same("a provision", book.enact(NONE, p + 1), p);
        }
        Check.state("provision 20", () -> book.law.enact(NONE, 30, 0));
        Check.index("in 20", () -> book.law.enact(20, 30, 0));
        for (int i = 20; i < 40; i++) {
            Check.same("an instruction", book.repeal(0), i);
        }
        Check.state("instruction 40", () -> book.repeal(0));
        Book other = withAct();
        other.enact(NONE, 1);
        for (int i = 1; i < 40; i++) {
            other.repeal(0);
        }
        Check.state("an ENACT as instruction 40", () -> other.law.enact(NONE, 1, 0));
        Check.argument("letters ahead of 40", () -> other.law.enact(NONE, 1, 27));
        Check.index("provision ahead of 40", () -> other.repeal(1));
    }

    private static void promise7Instruct() {
        Book book = withAct();
        Amendmark law = book.law;
        Check.index("no provision", () -> law.instruct(Amendmark.REPEAL, 0, 0, 0));
        Check.index("no provision, and kind ENACT", () -> law.instruct(Amendmark.ENACT, 0, 0, 0));
        Check.index("no instruction", () -> law.instruct(Amendmark.AMEND, 0, 0, 0));
        book.enact(NONE, 1, 4);
        Check.argument("kind ENACT", () -> law.instruct(Amendmark.ENACT, 0, 0, 0));
        Check.argument("kind 8", () -> law.instruct(8, 0, 0, 0));
        Check.argument("kind -1", () -> law.instruct(-1, 0, 0, 0));
        Check.index("kind 8 of provision 1", () -> law.instruct(8, 1, 0, 0));
        Check.index("provision -1", () -> law.instruct(Amendmark.REPEAL, -1, 0, 0));
        Check.index("instruction 1", () -> law.instruct(Amendmark.AMEND, 1, 0, 0));
        Check.index("instruction -1", () -> law.instruct(Amendmark.AMEND, -1, 0, 0));
        Check.index("move to 1", () -> law.instruct(Amendmark.MOVE, 0, 1, 0));
        Check.index("move to -2", () -> law.instruct(Amendmark.MOVE, 0, -2, 0));
        Check.argument("number 0", () -> law.instruct(Amendmark.RENUMBER, 0, 0, 0));
        Check.argument("number 100", () -> law.instruct(Amendmark.RENUMBER, 0, 100, 0));
        Check.argument("letters 54", () -> law.instruct(Amendmark.RENUMBER, 0, 1, 54));
        Check.argument("letters 729", () -> law.instruct(Amendmark.RENUMBER, 0, 1, 729));
        Check.same("first and letters do not matter", law.instruct(Amendmark.REPEAL, 0, -9, 27), 1);
        Check.same("of an AMEND neither", law.instruct(Amendmark.AMEND, 0, -9, 999), 2);
        Check.same("letters of a MOVE neither", law.instruct(Amendmark.MOVE, 0, NONE, -5), 3);
        Check.same("an AMEND of an AMEND", law.instruct(Amendmark.AMEND, 2, 0, 0), 4);
        law.pass(1);
        Check.state("no act today", () -> law.instruct(Amendmark.REPEAL, 0, 0, 0));
        Check.argument("kind ahead of no act", () -> law.instruct(9, 0, 0, 0));
        Check.index("provision ahead of no act", () -> law.instruct(Amendmark.REPEAL, 1, 0, 0));
    }

    private static void promise7Words() {
        Book book = withAct();
        Amendmark law = book.law;
        book.enact(NONE, 1, 4);
        for (int kind = Amendmark.INSERT; kind <= Amendmark.OMIT; kind++) {
            int wordless = kind;
            Check.state("no words for kind " + kind, () -> law.instruct(wordless, 0, 1, 0));
        }
        law.word(1, true);
        int[] notNew = {Amendmark.SUBSTITUTE, Amendmark.OMIT, Amendmark.RENUMBER, Amendmark.MOVE, Amendmark.REPEAL};
        for (int kind : notNew) {
            Check.state("a new word for kind " + kind, () -> law.instruct(kind, 0, kind == Amendmark.MOVE ? NONE : 1, 0));
        }
        Check.same("all stay", law.word(2, true), 2);
        Check.same("INSERT has new ones", law.instruct(Amendmark.INSERT, 0, 0, 0), 1);
        Check.same("all are gone", law.word(1, false), 1);
        int[] notSearched = {Amendmark.INSERT, Amendmark.RENUMBER, Amendmark.MOVE, Amendmark.REPEAL, Amendmark.AMEND};
        for (int kind : notSearched) {
            Check.state("a searched word for kind " + kind, () -> law.instruct(kind, 0, kind == Amendmark.MOVE ? NONE : 1, 0));
        }
        Check.same("OMIT has searched ones", law.instruct(Amendmark.OMIT, 0, 0, 0), 2);
        book.say(Book.of(1), Book.of(2));
        Check.state("OMIT has no new ones", () -> law.instruct(Amendmark.OMIT, 0, 0, 0));
        Check.same("SUBSTITUTE has both", law.instruct(Amendmark.SUBSTITUTE, 0, 0, 0), 3);
        Check.same("SUBSTITUTE without new ones", book.substitute(0, Book.of(1)), 4);
        Check.same("INSERT with both", book.insert(0, Book.of(4), 5), 5);
        Check.same("AMEND with new ones", book.amend(5, 6), 6);
        Check.same("AMEND without", book.amend(5), 7);
        Check.same("RENUMBER", book.renumber(0, 99), 8);
        Check.same("MOVE", book.move(0, 0), 9);
        Check.same("REPEAL", book.repeal(0), 10);
    }

    private static void promise8Order() {
        Book book = withAct();
        Amendmark law = book.law;
        Check.index("no instruction", () -> order(law, 0, -1));
        book.enact(NONE, 1);
        law.terms(Amendmark.BY_ORDER, 0, 7, NONE);
        book.enact(NONE, 2);
        book.enact(NONE, 3);
        law.terms(Amendmark.WITH, 1, 7, NONE);
        book.enact(NONE, 4);
        Check.index("instruction 4", () -> order(law, 4, 0));
        Check.index("instruction -1", () -> order(law, -1, 0));
        Check.argument("day -1", () -> order(law, 1, -1));
        Check.argument("day 5001", () -> order(law, 1, 5001));
        Check.argument("day ahead of none waiting", () -> order(law, 0, 5001));
        Check.state("ON_DAY does not wait", () -> order(law, 0, 1));
        Check.state("WITH does not wait itself", () -> order(law, 3, 1));
        law.look(4999, 0, 0);
        book.stands("diii");
        law.order(1, 5000);
        Check.state("once", () -> order(law, 1, 1));
        law.pass(7);
        law.order(2, 0);
        Check.state("once", () -> order(law, 2, 0));
        law.look(5000, 6, 0);
        book.stands("ddid");
        law.look(0, 7, 0);
        book.stands("didi");
    }

    private static long order(Amendmark law, int instruction, int day) {
        law.order(instruction, day);
        return 0;
    }

    private static void promise9Strike() {
        Book book = withAct();
        Amendmark law = book.law;
        Check.index("no instruction", () -> strike(law, 0, -1));
        book.enact(NONE, 1);
        book.enact(NONE, 2);
        Check.argument("day -1", () -> strike(law, 0, -1));
        Check.argument("day 5001", () -> strike(law, 0, 5001));
        law.strike(0, 5000);
        Check.state("once", () -> strike(law, 0, 1));
        Check.argument("day ahead of once", () -> strike(law, 0, 5001));
        law.pass(3);
        law.strike(1, 0);
        law.look(4999, 2, 0);
        book.stands("dd");
        law.look(5000, 2, 0);
        book.stands("id");
        law.look(0, 3, 0);
        book.stands("di");
        law.look(4999, 3, 0);
        book.stands("di");
    }

    private static long strike(Amendmark law, int instruction, int day) {
        law.strike(instruction, day);
        return 0;
    }

    private static void promise10Suspend() {
        Book book = withAct();
        Amendmark law = book.law;
        Check.index("no instruction", () -> suspend(law, 0, 2, 1));
        book.enact(NONE, 1);
        book.enact(NONE, 2);
        Check.argument("from -1", () -> suspend(law, 0, -1, 5));
        Check.argument("from 5001", () -> suspend(law, 0, 5001, 5001));
        Check.argument("to 5001", () -> suspend(law, 0, 0, 5001));
        Check.argument("to ahead of from", () -> suspend(law, 0, 5, 4));
        law.suspend(0, 5, 8);
        Check.state("once", () -> suspend(law, 0, 1, 1));
        Check.argument("to ahead of once", () -> suspend(law, 0, 1, 0));
        law.look(4, 0, 0);
        book.stands("dd");
        law.look(5, 0, 0);
        book.stands("id");
        law.look(8, 0, 0);
        book.stands("id");
        law.look(9, 0, 0);
        book.stands("dd");
        law.pass(20);
        law.suspend(1, 7, 7);
        law.look(7, 19, 0);
        book.stands("id");
        law.look(7, 20, 0);
        book.stands("ii");
        law.look(6, 20, 0);
        book.stands("id");
    }

    private static long suspend(Amendmark law, int instruction, int from, int to) {
        law.suspend(instruction, from, to);
        return 0;
    }

    public static void main(String[] args) {
        promise1ANewObject();
        promise2Pass();
        promise3Act();
        promise3AnActThatIsRefusedMakesNone();
        promise4Terms();
        promise5Word();
        promise6Enact();
        promise6Words();
        promise6Limits();
        promise7Instruct();
        promise7Words();
        promise8Order();
        promise9Strike();
        promise10Suspend();
        Check.end();
    }
}
