/** The edges that the document's Instructions name: what each kind does, and when it fails. */
final class KindEdges {
    private static final int NONE = Amendmark.NONE;

    private KindEdges() {
    }

    static void run() {
        Doc.open("Instructions");
        fourWords();
        foundFromTheLeft();
        failsAndDoesNothing();
        enactIsThere();
        enactFails();
        insertBehindTheFirstPlace();
        substituteEachTime();
        omitToTheEnd();
        wordsFail();
        renumber();
        renumberFails();
        move();
        moveFails();
        repeal();
        repealFails();
        amend();
        amendOfOtherKinds();
        amendFails();
        whoIsNotInEffect();
    }

    private static void fourWords() {
        Doc.says("An instruction has a kind, a provision, searched words, at most 4, and new ones, at most 4.");
        Book book = Book.withText(1, 2, 3, 4);
        book.say(Book.of(1, 2, 3, 4), Book.of(5, 6, 7, 8));
        Check.state("a fifth searched one", () -> book.law.word(9, false));
        Check.state("a fifth new one", () -> book.law.word(9, true));
        Check.same("with four of both", book.law.instruct(Amendmark.SUBSTITUTE, 0, 0, 0), 1);
        book.reads(0, "5 6 7 8");
    }

    private static void substituted(int[] words, int[] searched, int[] fresh, String due) {
        Book book = Book.withText(words);
        book.substitute(0, searched, fresh);
        book.reads(0, due);
    }

    private static void foundFromTheLeft() {
        Doc.says("Words are found in a provision where all searched ones stand one behind the other, from the left,"
            + " without having a word in common.");
        substituted(Book.of(4, 4, 4), Book.of(4, 4), Book.of(5), "5 4");
        substituted(Book.of(4, 4, 4, 4), Book.of(4, 4), Book.of(5), "5 5");
        substituted(Book.of(4, 4, 4, 4), Book.of(4, 4, 4), Book.of(5), "5 4");
        substituted(Book.of(1, 2, 1, 2), Book.of(2, 1), Book.of(5), "1 5 2");
        substituted(Book.of(1, 2, 1, 2), Book.of(1, 2), Book.of(5), "5 5");
        substituted(Book.of(1, 2, 1, 3), Book.of(1, 3), Book.of(5), "1 2 5");
        substituted(Book.of(1, 1, 2, 3), Book.of(1, 2), Book.of(5), "1 5 3");
        // Not where one stands between them, nor in another order, nor beyond the end.
        substituted(Book.of(1, 2, 3, 4), Book.of(1, 3), Book.of(5), "1 2 3 4");
        substituted(Book.of(1, 2, 3, 4), Book.of(2, 1), Book.of(5), "1 2 3 4");
        substituted(Book.of(1, 2), Book.of(2, 3), Book.of(5), "1 2");
        substituted(Book.of(1, 2), Book.of(1, 2, 3), Book.of(5), "1 2");
        // Nor in what was put in, alone or with words behind it.
        substituted(Book.of(4, 4, 4, 4), Book.of(4, 4), Book.of(4), "4 4");
        substituted(Book.of(1, 2, 2), Book.of(1, 2), Book.of(1), "1 2");
        substituted(Book.of(1), Book.of(1), Book.of(1, 1, 1, 1), "1 1 1 1");
        substituted(Book.of(1, 3, 1), Book.of(1), Book.of(1, 2), "1 2 3 1 2");
        substituted(Book.of(1, 2, 1, 2), Book.of(1, 2), Book.of(2, 1), "2 1 2 1");
        substituted(Book.of(1, 1, 2, 2), Book.of(1, 2), Book.of(), "1 2");
        // Nor in words that were in it and are gone.
        Book book = Book.withText(1, 2, 3, 4);
        book.omit(0, 3);
        book.insert(0, Book.of(3), 9);
        book.insert(0, Book.of(2, 3), 9);
        book.stands("ddff");
        foundAtTheEndOfTwelve();
    }

    private static Book withTwelve(int... words) {
        Book book = Book.withText(words);
        book.insert(0, Book.of(), words);
        book.insert(0, Book.of(), words);
        return book;
    }

    private static void foundAtTheEndOfTwelve() {
        Book book = withTwelve(1, 2, 3, 4);
        book.substitute(0, Book.of(4), 5);
        book.reads(0, "1 2 3 5 1 2 3 5 1 2 3 5");
        book.substitute(0, Book.of(2, 3, 5), 6);
        book.reads(0, "1 6 1 6 1 6");
        Book other = withTwelve(1, 1, 1, 1);
        other.substitute(0, Book.of(1, 1, 1, 1), 7, 8);
        other.reads(0, "7 8 7 8 7 8");
        Book last = withTwelve(1, 1, 1, 1);
        last.substitute(0, Book.of(1), 2, 3, 4);
        last.substitute(0, Book.of(1, 1), 1);
        last.insert(0, Book.of(), 2, 3, 4, 5);
        last.insert(0, Book.of(), 6, 7);
        last.omit(0, 7);
        last.reads(0, "1 1 1 1 1 1 2 3 4 5 6");
        last.stands("ddd" + "f" + "dddd");
    }

    /** A 1 with 1 2 1 2, a 2 with a 1 in it, and one that is not there. */
    private static Book ofFour() {
        Book book = Book.withText(1, 2, 1, 2);
        book.enact(NONE, 2, 7);
        book.enact(1, 1, 8);
        book.enact(NONE, 1, 9);
        return book;
    }

    private static void doesNothing(String what, Book book, long before, int instruction) {
        Check.same(what + " fails", book.law.state(instruction), Amendmark.FAILED);
        Check.same(what + " does nothing", book.law.print(), before);
        for (int p = 0; p < 4; p++) {
            int count = Math.max(0, book.law.words(p));
            for (int k = 0; k < count; k++) {
                Check.same(what + " anew", book.law.wordAnew(p, k), book.law.wordAt(p, k));
            }
            Check.same(what + " no further", book.law.wordAnew(p, count), NONE);
        }
    }

    private static void failsAndDoesNothing() {
        Doc.says("It does, or it fails and does nothing:");
        Book book = ofFour();
        book.insert(0, Book.of(), 3, 3, 3, 3);
        long before = book.law.print();
        book.lists("0 1 2");
        doesNothing("ENACT", book, before, 3);
        doesNothing("INSERT without a place", book, before, book.insert(0, Book.of(9), 5));
        doesNothing("SUBSTITUTE without a place", book, before, book.substitute(0, Book.of(9), 5));
        // The first of its places would have room.
        doesNothing("SUBSTITUTE without room", book, before, book.substitute(0, Book.of(3), 5, 5, 5));
        doesNothing("OMIT", book, before, book.omit(0, 9));
        doesNothing("RENUMBER", book, before, book.renumber(0, 2));
        doesNothing("MOVE", book, before, book.move(1, 2));
        doesNothing("MOVE beside its label", book, before, book.move(2, NONE));
        doesNothing("REPEAL", book, before, book.repeal(3));
        doesNothing("AMEND", book, before, book.amend(0, 6));
        book.insert(0, Book.of(), 4);
        before = book.law.print();
        doesNothing("INSERT without room", book, before, book.insert(0, Book.of(1), 5, 5, 5, 5));
        doesNothing("INSERT without room at the end", book, before, book.insert(0, Book.of(), 5, 5, 5, 5));
    }

    private static void enactIsThere() {
        Doc.says("ENACT: the provision is there, with the label and in the provision that it tells, or at the top,"
            + " with the new words;");
        Book book = Book.withAct();
        book.say(Book.of(), Book.of(1, 2, 3, 4));
        book.law.enact(NONE, 99, 728);
        book.law.enact(0, 1, 0);
        book.say(Book.of(), Book.of(0));
        book.law.enact(1, 1, 26);
        book.lists("0 1 2");
        int[][] due = {{99728, NONE}, {1000, 0}, {1026, 1}};
        for (int p = 0; p < 3; p++) {
            Check.same("label of " + p, book.law.label(p), due[p][0]);
            Check.same("parent of " + p, book.law.parent(p), due[p][1]);
        }
        book.reads(0, "1 2 3 4");
        book.reads(1, "");
        book.reads(2, "0");
    }

    private static void enactFails() {
        Doc.says("it fails, if that in which it is to be is not there, or has one with that label already;");
        Book book = Book.withText();
        book.enact(0, 1);
        book.law.enact(NONE, 1, 1);
        book.stands("ddd");
        book.enact(NONE, 1);
        book.enact(0, 1);
        book.law.enact(NONE, 1, 1);
        book.enact(3, 7);
        book.stands("ddd" + "ffff");
        // The same label in another one, and one that has become free, have room.
        book.enact(1, 1);
        book.renumber(0, 9);
        book.enact(NONE, 1);
        book.repeal(1);
        book.enact(0, 1);
        book.enact(1, 5);
        book.stands("dddffff" + "dddd" + "d" + "f");
    }

    private static void insertBehindTheFirstPlace() {
        Doc.says("INSERT: the new words come behind the first place at which the searched ones are found, or at the end,"
            + " if there are no searched ones;");
        Book book = Book.withText(1, 2, 1, 2);
        book.insert(0, Book.of(1, 2), 5);
        book.reads(0, "1 2 5 1 2");
        book.comesFrom(0, "0 0 1 0 0");
        book.insert(0, Book.of(2, 5, 1, 2), 6, 7);
        book.reads(0, "1 2 5 1 2 6 7");
        book.insert(0, Book.of(), 8);
        book.reads(0, "1 2 5 1 2 6 7 8");
        Book empty = Book.withText();
        empty.insert(0, Book.of(), 3, 4);
        empty.reads(0, "3 4");
    }

    private static void substituteEachTime() {
        Doc.says("SUBSTITUTE: the new ones take the place of the searched ones, each time, also if the new ones are none;");
        Book book = Book.withText(1, 2, 1, 1);
        book.insert(0, Book.of(), 3, 1);
        book.substitute(0, Book.of(1), 5, 6);
        book.reads(0, "5 6 2 5 6 5 6 3 5 6");
        book.comesFrom(0, "2 2 0 2 2 2 2 1 2 2");
        book.substitute(0, Book.of(5, 6), 7);
        book.reads(0, "7 2 7 7 3 7");
        book.substitute(0, Book.of(7));
        book.reads(0, "2 3");
        book.comesFrom(0, "0 1");
        book.substitute(0, Book.of(2, 3));
        book.reads(0, "");
        book.stands("dddddd");
        Book twelve = withTwelve(1, 1, 1, 1);
        twelve.substitute(0, Book.of(1), 2);
        twelve.reads(0, "2 2 2 2 2 2 2 2 2 2 2 2");
        twelve.comesFrom(0, "3 3 3 3 3 3 3 3 3 3 3 3");
        twelve.substitute(0, Book.of(2, 2), 3);
        twelve.reads(0, "3 3 3 3 3 3");
        twelve.substitute(0, Book.of(3), 4, 4);
        twelve.reads(0, "4 4 4 4 4 4 4 4 4 4 4 4");
        twelve.substitute(0, Book.of(4));
        twelve.reads(0, "");
    }

    private static void omitToTheEnd() {
        Doc.says("OMIT: the words from the first place on go, to the end of the provision;");
        int[][] searched = {{1}, {2}, {2, 1}, {1, 2, 1, 2}, {1, 2}, {3}};
        String[] due = {"", "1", "1", "", "", "1 2 1 2 4"};
        for (int k = 0; k < searched.length; k++) {
            Book book = Book.withText(1, 2, 1, 2);
            book.insert(0, Book.of(), 4, 3);
            book.omit(0, searched[k]);
            book.reads(0, due[k]);
            book.stands("ddd");
        }
    }

    private static void wordsFail() {
        Doc.says("all fail, if the provision is not there, has not the searched words (SUBSTITUTE and OMIT need one at least),"
            + " or would have more than 12 words;");
        Book gone = Book.withText(1);
        gone.repeal(0);
        gone.insert(0, Book.of(), 2);
        gone.insert(0, Book.of(1), 2);
        gone.substitute(0, Book.of(1), 2);
        gone.substitute(0, Book.of(1));
        gone.omit(0, 1);
        gone.stands("dd" + "fffff");
        Book without = Book.withText(1);
        without.insert(0, Book.of(2), 2);
        without.substitute(0, Book.of(1, 1), 2);
        without.omit(0, 2);
        without.stands("d" + "fff");
        without.omit(0, 1);
        without.insert(0, Book.of(1), 2);
        without.substitute(0, Book.of(1), 2);
        without.omit(0, 1);
        without.stands("dfffd" + "fff");
        Check.state("SUBSTITUTE without searched ones", () -> without.substitute(0, Book.of(), 1));
        moreThanTwelve();
    }

    private static void moreThanTwelve() {
        Book book = Book.withText(1, 1, 1, 2);
        // Three times four words and the one beside them are thirteen; without it, twelve.
        book.substitute(0, Book.of(1), 5, 6, 7, 8);
        book.substitute(0, Book.of(2));
        book.substitute(0, Book.of(1), 5, 6, 7, 8);
        book.stands("d" + "f" + "dd");
        book.reads(0, "5 6 7 8 5 6 7 8 5 6 7 8");
        book.insert(0, Book.of(), 1);
        book.insert(0, Book.of(8), 1);
        book.substitute(0, Book.of(5, 6, 7, 8), 4, 3, 2, 1);
        book.substitute(0, Book.of(4), 5, 5);
        book.stands("dfdd" + "ffdf");
        book.omit(0, 1);
        book.reads(0, "4 3 2");
        book.insert(0, Book.of(), 1, 1, 1, 1);
        book.insert(0, Book.of(3), 6, 6, 6, 6);
        book.insert(0, Book.of(4), 7, 7);
        book.insert(0, Book.of(4), 7);
        book.stands("dfddffdfd" + "ddfd");
        book.reads(0, "4 7 3 6 6 6 6 2 1 1 1 1");
    }

    private static void renumber() {
        Doc.says("RENUMBER: it has the label that it tells;");
        Book book = ofFour();
        int[][] told = {{1, 0}, {99, 0}, {1, 1}, {50, 26}, {50, 28}, {99, 728}, {2, 27 * 26 + 1}, {1, 0}};
        for (int[] label : told) {
            int one = book.law.instruct(Amendmark.RENUMBER, 0, label[0], label[1]);
            Check.same("it is done", book.law.state(one), Amendmark.DONE);
            Check.same("the label", book.law.label(0), 1000 * label[0] + label[1]);
        }
        Check.same("the one in another stays", book.law.label(2), 1000);
    }

    private static void renumberFails() {
        Doc.says("it fails, if it is not there, or another one beside it has that label;");
        Book book = ofFour();
        book.renumber(3, 9);
        book.renumber(1, 1);
        book.renumber(0, 2);
        book.renumber(0, 1);
        book.renumber(2, 2);
        book.renumber(2, 1);
        book.law.instruct(Amendmark.RENUMBER, 0, 2, 1);
        book.law.instruct(Amendmark.RENUMBER, 1, 2, 1);
        book.stands("dddf" + "fff" + "ddd" + "d" + "f");
        book.repeal(0);
        book.law.instruct(Amendmark.RENUMBER, 1, 2, 1);
        Check.same("a label that is free again", book.law.label(1), 2001);
    }

    private static void move() {
        Doc.says("MOVE: it is in the provision that it tells, or at the top;");
        Book book = Book.withText();
        book.enact(NONE, 2, 5);
        book.enact(1, 3);
        book.move(1, 0);
        book.lists("0 1 2");
        Check.same("parent of 1", book.law.parent(1), 0);
        Check.same("parent of one in it", book.law.parent(2), 1);
        book.reads(1, "5");
        book.move(1, 0);
        Check.same("once more", book.law.parent(1), 0);
        book.move(2, NONE);
        Check.same("at the top", book.law.parent(2), NONE);
        book.move(2, NONE);
        book.move(0, 2);
        book.lists("2 0 1");
        book.stands("ddd" + "ddddd");
    }

    private static void moveFails() {
        Doc.says("it fails, if one of both is not there, that is it or in it, or has another one with its label;");
        Book book = ofFour();
        book.move(3, 0);
        book.move(0, 3);
        book.move(3, NONE);
        book.stands("dddf" + "fff");
        book.move(1, 1);
        book.move(1, 2);
        book.move(2, NONE);
        book.stands("dddffff" + "fff");
        book.enact(2, 5);
        book.move(1, 4);
        book.stands("dddfffffff" + "df");
        book.move(0, 1);
        book.renumber(0, 3);
        book.move(0, 1);
        book.lists("1 2 4 0");
        book.move(2, NONE);
        book.move(4, 2);
        book.stands("dddfffffffdf" + "fdd" + "dd");
        book.repeal(0);
        book.move(2, 0);
        book.stands("dddfffffffdf" + "fdddd" + "df");
        // The label of one that is not there any more is free.
        book.renumber(2, 3);
        book.move(2, 1);
        Check.same("a label that is free again", book.law.parent(2), 1);
    }

    private static void repeal() {
        Doc.says("REPEAL: it is not there any more, nor what is in it;");
        Book book = Book.withAct();
        for (int p = 0; p < 19; p++) {
            book.enact(p - 1, 1);
        }
        book.enact(NONE, 2);
        book.move(19, 0);
        book.move(1, 19);
        book.repeal(18);
        book.lists("0 19 1 2 3 4 5 6 7 8 9 10 11 12 13 14 15 16 17");
        book.repeal(2);
        book.lists("0 19 1");
        book.repeal(0);
        book.lists("");
        for (int p = 0; p < 20; p++) {
            Check.same("label of " + p, book.law.label(p), NONE);
            Check.same("parent of " + p, book.law.parent(p), NONE);
            Check.same("words of " + p, book.law.words(p), NONE);
        }
    }

    private static void repealFails() {
        Doc.says("it fails, if it is not there;");
        Book book = ofFour();
        book.repeal(3);
        book.repeal(1);
        book.repeal(1);
        book.repeal(2);
        book.stands("dddf" + "fdff");
        Book later = Book.withAct();
        later.on(3);
        later.enact(NONE, 1);
        later.on(2);
        later.repeal(0);
        later.law.look(2, 0, 0);
        later.stands("if");
        later.law.look(3, 0, 0);
        later.stands("df");
    }

    private static void amend() {
        Doc.says("AMEND: of another, earlier instruction: its new words are these from then on, if that has new words at all,"
            + " which ENACT, INSERT and SUBSTITUTE have");
        Book book = Book.withText(1, 2);
        book.on(9);
        int enact = 1;
        book.enact(NONE, 2, 7);
        int insert = book.insert(0, Book.of(1), 5, 6);
        int substitute = book.substitute(0, Book.of(2), 3);
        int none = book.substitute(0, Book.of(3));
        int last = book.insert(0, Book.of(), 1);
        Check.index("not of itself", () -> book.law.instruct(Amendmark.AMEND, last + 1, 0, 0));
        book.on(8);
        book.amend(enact, 1, 2, 3, 4);
        book.amend(insert);
        book.amend(substitute, 3, 8);
        book.amend(none, 120);
        book.law.look(8, 0, 0);
        book.reads(0, "1 2");
        book.law.look(9, 0, 0);
        book.stands("dddddd" + "dddd");
        book.reads(1, "1 2 3 4");
        book.comesFrom(1, "1 1 1 1");
        book.reads(0, "1 120 8 1");
        book.comesFrom(0, "0 4 3 5");
        amendTheFirstAndTheLast();
    }

    private static void amendTheFirstAndTheLast() {
        Book book = Book.withAct();
        book.on(3);
        book.enact(NONE, 1, 1);
        for (int i = 1; i < 37; i++) {
            book.renumber(0, i);
        }
        book.insert(0, Book.of(), 2);
        book.on(2);
        book.amend(0, 3, 4);
        book.amend(37, 5);
        Check.same("instructions as many as there can be", book.law.state(39), Amendmark.IDLE);
        book.law.look(3, 0, 0);
        book.reads(0, "3 4 5");
        book.comesFrom(0, "0 0 37");
        Book last = Book.withText(1);
        for (int i = 1; i < 38; i++) {
            last.renumber(0, i);
        }
        last.on(3);
        last.insert(0, Book.of(), 2);
        last.on(2);
        last.amend(38, 6);
        last.law.look(3, 0, 0);
        last.reads(0, "1 6");
        last.comesFrom(0, "0 38");
    }

    private static void amendOfOtherKinds() {
        Doc.says("(of another kind it is done, and changes nothing);");
        Book book = Book.withText(1, 2);
        book.enact(NONE, 2, 3);
        book.on(9);
        int[] others = {book.omit(0, 2), book.renumber(0, 8), book.move(1, 0), 0, book.insert(0, Book.of(), 6)};
        book.on(8);
        others[3] = book.amend(others[4], 7);
        book.on(7);
        for (int k = 0; k < 4; k++) {
            book.amend(others[k], 9, 9);
        }
        book.law.look(9, 0, 0);
        book.stands("dd" + "dddd" + "d" + "dddd");
        book.reads(0, "1 7");
        book.reads(1, "3");
        Book repealed = Book.withText(1);
        repealed.on(9);
        repealed.repeal(0);
        repealed.on(8);
        repealed.amend(1, 9);
        repealed.law.look(9, 0, 0);
        repealed.stands("ddd");
        repealed.lists("");
    }

    private static void amendFails() {
        Doc.says("it fails, if that has been done, or has failed, by then.");
        Book book = Book.withText(1);
        book.on(5);
        int done = book.insert(0, Book.of(1), 5);
        int failed = book.insert(0, Book.of(9), 5);
        int move = book.move(0, NONE);
        book.on(4);
        int ahead = book.amend(done, 6);
        book.on(5);
        int sameDay = book.amend(done, 7);
        int ofFailed = book.amend(failed, 7);
        int ofMove = book.amend(move, 7);
        int ofAmend = book.amend(ahead, 7);
        int ofAmendThatFailed = book.amend(sameDay, 7);
        book.law.look(5, 0, 0);
        book.reads(0, "1 6");
        book.stands("d" + "dfd" + "d" + "fffff");
        Check.same("the AMEND ahead", book.law.state(ahead), Amendmark.DONE);
        Check.same("on the same day", book.law.state(sameDay), Amendmark.FAILED);
        Check.same("of one that has failed", book.law.state(ofFailed), Amendmark.FAILED);
        Check.same("of a MOVE", book.law.state(ofMove), Amendmark.FAILED);
        Check.same("of an AMEND", book.law.state(ofAmend), Amendmark.FAILED);
        Check.same("of an AMEND that has failed", book.law.state(ofAmendThatFailed), Amendmark.FAILED);
    }

    private static void whoIsNotInEffect() {
        Doc.says("Whoever is not in effect does nothing, and an AMEND of one that is not in effect is done, and does nothing.");
        Book book = Book.withText(1);
        book.on(5);
        int later = book.insert(0, Book.of(), 5);
        book.withOrder();
        int waits = book.insert(0, Book.of(), 6);
        book.terms(Amendmark.ON_DAY, 0, 2, NONE);
        int elsewhere = book.insert(0, Book.of(), 7);
        book.terms(Amendmark.ON_DAY, 0, 7, 4);
        int ended = book.insert(0, Book.of(), 8);
        book.on(0);
        int struck = book.insert(0, Book.of(), 9);
        int suspended = book.insert(0, Book.of(), 10);
        book.strike(struck, 4);
        book.suspend(suspended, 4, 4);
        for (int of : new int[] {later, waits, elsewhere, ended, struck, suspended}) {
            book.amend(of, 11);
        }
        book.law.look(4, 0, 0);
        book.stands("d" + "iiiiii" + "dddddd");
        book.reads(0, "1");
        Check.same("found anew", book.law.wordAnew(0, 1), NONE);
        // An AMEND that is not in effect itself changes nothing either.
        Book other = Book.withText(1);
        other.on(5);
        other.insert(0, Book.of(), 5);
        other.on(2);
        other.strike(other.amend(1, 6), 5);
        other.law.look(5, 0, 0);
        other.stands("ddi");
        other.reads(0, "1 5");
    }
}
