import java.util.ArrayList;
import java.util.List;

/** What stands ahead of the Terms and behind the promises: the whole in one sentence, the face, and what is not promised. */
final class WholeEdges {
    private static final int NONE = Amendmark.NONE;

    private WholeEdges() {
    }

    static void run() {
        Doc.open("What it is");
        onEachDay();
        inATree();
        inWords();
        commencement();
        amendments();
        territoriesAndEnds();
        failuresAndConflicts();
        references();
        whereItComesFrom();
        anObjectServes512Calls();
        face();
        facesOfThePromises();
    }

    /**
     * The code that all clauses of the first sentence speak of, as it is made up to the day 16.
     * 0 to 2: the provisions 0, 1 and, in 0, 2. 3: between them, 1a with references to 1. 4: a new label for 1.
     * 5: new words by an order of the day 15. 6: others with it. 7: an amendment of 5. 8: a word in one territory.
     * 9: one that fails. 10: a conflict with 4.
     */
    private static Book code() {
        Book book = Book.withText(10, 11);
        book.enact(NONE, 2, 20);
        book.enact(0, 1, 30);
        book.law.pass(10);
        book.law.act();
        book.on(20);
        book.say(Book.of(), Book.of(101, 121));
        book.law.enact(NONE, 1, 1);
        book.on(30);
        book.renumber(1, 3);
        book.withOrder();
        book.substitute(0, Book.of(11), 12, 13);
        book.with(5);
        book.insert(2, Book.of(), 31);
        book.on(25);
        book.amend(5, 14);
        book.terms(Amendmark.ON_DAY, 0, 2, 40);
        book.insert(1, Book.of(), 21);
        book.on(30);
        book.omit(0, 99);
        book.law.pass(5);
        book.order(5, 28);
        book.law.pass(1);
        book.suspend(8, 5, 6);
        book.strike(3, 50);
        book.law.act();
        book.renumber(1, 4);
        return book;
    }

    private static void onEachDay() {
        Doc.says("Amendmark, a code of laws as it stood on each day, and as it was known on each day:");
        Book book = code();
        int[][] due = {{0, 0, 3}, {0, 16, 3}, {19, 16, 3}, {20, 16, 4}, {20, 9, 3}, {49, 16, 4}, {50, 16, 3}, {50, 15, 4}};
        for (int[] row : due) {
            Check.same("on " + row[0] + " as known on " + row[1], book.law.look(row[0], row[1], 0), row[2]);
        }
        book.law.look(28, 14, 0);
        book.reads(0, "10 11");
        book.law.look(28, 15, 0);
        book.reads(0, "10 14");
        book.law.look(27, 15, 0);
        book.reads(0, "10 11");
    }

    private static void inATree() {
        Doc.says("provisions in a tree with numbers and letters put between,");
        Book book = code();
        book.lists("0 2 1");
        book.law.look(20, 16, 0);
        book.lists("0 2 3 1");
        int[][] due = {{1000, NONE}, {2000, NONE}, {1000, 0}, {1001, NONE}};
        for (int p = 0; p < due.length; p++) {
            Check.same("label of " + p, book.law.label(p), due[p][0]);
            Check.same("parent of " + p, book.law.parent(p), due[p][1]);
        }
    }

    private static void inWords() {
        Doc.says("acts with instructions in words,");
        Book book = code();
        book.reads(0, "10 11");
        book.law.look(31, 16, 0);
        book.reads(0, "10 14");
        book.reads(1, "20");
        book.reads(2, "30 31");
        book.reads(3, "101 121");
    }

    private static void commencement() {
        Doc.says("commencement by days, by orders, or with other instructions,");
        Book book = code();
        int[][] due = {{0, NONE, NONE, NONE, NONE}, {10, 20, NONE, NONE, NONE}, {15, 20, 28, 28, NONE}, {16, 20, 28, 28, 30}};
        for (int[] row : due) {
            book.law.look(0, row[0], 0);
            Check.same("by a day", book.law.commences(3), row[1]);
            Check.same("by an order", book.law.commences(5), row[2]);
            Check.same("with another one", book.law.commences(6), row[3]);
            Check.same("of the last act", book.law.commences(10), row[4]);
        }
    }

    private static void amendments() {
        Doc.says("amendments of instructions that are not in force yet,");
        Book book = code();
        book.law.look(25, 16, 0);
        Check.same("the amendment is done", book.law.state(7), Amendmark.DONE);
        Check.same("what it amends is not in force yet", book.law.state(5), Amendmark.IDLE);
        book.reads(0, "10 11");
        book.law.look(28, 16, 0);
        Check.same("in force", book.law.state(5), Amendmark.DONE);
        book.reads(0, "10 14");
        book.strike(7, 0);
        book.reads(0, "10 12 13");
    }

    private static void territoriesAndEnds() {
        Doc.says("territories, sunsets, suspensions and what is struck down,");
        Book book = code();
        int[] days = {0, 4, 5, 6, 7, 39, 40, 41};
        String[] due = {"20 21", "20 21", "20", "20", "20 21", "20 21", "20", "20"};
        for (int k = 0; k < days.length; k++) {
            for (int t = 0; t < 3; t++) {
                book.law.look(days[k], 16, t);
                book.reads(1, t == 1 ? due[k] : "20");
            }
        }
        for (int day = 48; day <= 52; day++) {
            book.law.look(day, 16, 0);
            Check.same("struck down, on " + day, book.law.label(3), day < 50 ? 1001 : NONE);
        }
    }

    private static void failuresAndConflicts() {
        Doc.says("failures, conflicts,");
        Book book = code();
        int[][] due = {{29, 16, 0, 0}, {30, 16, 2, 1}, {30, 15, 2, 0}, {30, 9, 0, 0}, {5000, 16, 2, 1}};
        for (int[] row : due) {
            book.law.look(row[0], row[1], 0);
            Check.same("what fails, on " + row[0], book.law.state(9), row[2]);
            Check.same("conflicts on " + row[0], book.law.conflicts(), row[3]);
        }
    }

    private static void references() {
        Doc.says("references that follow or are frozen,");
        Book book = code();
        int[][] due = {{20, 16, 2000}, {29, 16, 2000}, {30, 15, 3000}, {30, 16, 4000}, {49, 16, 4000}};
        for (int[] row : due) {
            book.law.look(row[0], row[1], 0);
            Check.same("one that follows, on " + row[0], book.law.refers(3, 0), row[2]);
            Check.same("a frozen one, on " + row[0], book.law.refers(3, 1), 2000);
            Check.same("a plain word, on " + row[0], book.law.refers(0, 0), NONE);
        }
    }

    private static void whereItComesFrom() {
        Doc.says("and for each word where it comes from.");
        Book book = code();
        book.law.look(31, 16, 1);
        String[] due = {"0 5", "1 8", "2 6", "3 3"};
        for (int p = 0; p < due.length; p++) {
            book.comesFrom(p, due[p]);
        }
    }

    private static void anObjectServes512Calls() {
        Doc.says("An object is used for at most 512 calls after it has been made; what later calls answer is free.");
        Book book = Book.withAct();
        for (int p = 0; p < 20; p++) {
            book.enact(p % 4 == 0 ? NONE : p - 1, p + 1, 120, 100, p, 99);
        }
        for (int i = 20; i < 40; i++) {
            book.insert(i - 20, Book.of(), 139);
        }
        // These were 1, 100 and 40 calls; what is asked now answers the same up to the last one.
        long due = book.law.print();
        for (int calls = 142; calls < 512; calls++) {
            switch (calls % 4) {
                case 0:
                    Check.same("print, the call " + calls, book.law.print(), due);
                    break;
                case 1:
                    Check.same("look, the call " + calls, book.law.look(calls, 0, calls % 3), 20);
                    break;
                case 2:
                    Check.same("refers, the call " + calls, book.law.refers(19, 4), 20000);
                    break;
                default:
                    Check.refuses("terms, the call " + calls, () -> book.terms(Amendmark.WITH, 39, 7, NONE), null);
            }
        }
    }

    /** A line of the document's face as it stands in the program: a method, or the constructor, has a body there. */
    private static String asWritten(String line) {
        boolean isConstant = line.contains("=");
        return !isConstant && line.endsWith(";") ? line.substring(0, line.length() - 1) + " {" : line;
    }

    private static void face() {
        Doc.open("The public face");
        List<String> due = new ArrayList<>();
        for (String line : Doc.lines()) {
            Doc.says(line.trim());
            if (line.contains("public ")) {
                due.add(asWritten(line));
            }
        }
        Check.same("lines of the face", due.size(), 1 + 4 + 1 + 22);
        List<String> got = Source.publicLines();
        Check.holds("the face is " + got + ", due is " + due, got.equals(due));
    }

    /** Each promise tells the face of its method once more. */
    private static void facesOfThePromises() {
        List<String> face = Doc.lines();
        List<String> told = Doc.promised();
        Check.same("promises", told.size(), 1 + 22);
        for (String one : told) {
            Check.holds("the face has " + one, face.contains("    public " + one + ";"));
        }
    }

    static void notPromised() {
        Doc.open("Not promised");
        Doc.tells("How the state is held inside the object is free, as are the speed of each call, the text of toString and the"
            + " behaviour of equals and hashCode.", "Use of one object from several threads at once is not promised to be safe.");
        Doc.says("Nothing is promised beyond the answers and state changes described above,");
        questionsChangeNothing();
        oneObjectChangesNoOther();
        Doc.tells("and nothing about an object after its 512th call.");
    }

    /** All questions, with arguments that fit and with others, of an object to which words have been told. */
    private static void questionsChangeNothing() {
        Book book = code();
        book.law.look(31, 16, 1);
        book.say(Book.of(20), Book.of(22, 23));
        long before = book.law.print();
        for (int k = -1; k <= 11; k++) {
            int i = k;
            Check.refuses("state", () -> book.law.state(i), i < 0 || i > 10 ? IndexOutOfBoundsException.class : null);
            Check.refuses("commences", () -> book.law.commences(i), i < 0 || i > 10 ? IndexOutOfBoundsException.class : null);
            Class<?> due = i < 0 || i > 3 ? IndexOutOfBoundsException.class : null;
            Check.refuses("label", () -> book.law.label(i), due);
            Check.refuses("parent", () -> book.law.parent(i), due);
            Check.refuses("words", () -> book.law.words(i), due);
            Check.refuses("wordAt", () -> book.law.wordAt(i, 1), due);
            Check.refuses("wordAnew", () -> book.law.wordAnew(i, 1), due);
            Check.refuses("origin", () -> book.law.origin(i, 1), due);
            Check.refuses("refers", () -> book.law.refers(i, 1), due);
            Check.refuses("provisionAt", () -> book.law.provisionAt(i), i < 0 ? IndexOutOfBoundsException.class : null);
            Check.same("conflicts", book.law.conflicts(), 1);
            Check.same("print", book.law.print(), before);
        }
        book.law.instruct(Amendmark.SUBSTITUTE, 1, 0, 0);
        book.reads(1, "22 23 21");
        book.law.look(31, 16, 0);
        book.reads(1, "22 23");
        book.lists("0 2 3 1");
    }

    private static void oneObjectChangesNoOther() {
        Book left = code();
        Book right = code();
        left.law.look(28, 16, 1);
        right.repeal(0);
        right.law.look(50, 16, 0);
        right.law.word(1, true);
        left.lists("0 2 3 1");
        left.reads(1, "20 21");
        right.lists("1");
        Check.same("its own words", left.law.word(1, true), 1);
        Check.same("its own instructions", left.law.instruct(Amendmark.INSERT, 0, 0, 0), 11);
        Check.same("its own days", right.law.pass(1), 17);
        Check.argument("no day of the other one", () -> left.law.look(0, 17, 0));
        Check.same("its own provisions", new Amendmark().provisionAt(0), NONE);
    }
}
