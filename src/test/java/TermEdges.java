import java.util.ArrayList;
import java.util.Collections;
import java.util.List;

/** The edges that the document's Terms name: days and acts; labels, provisions and words. */
final class TermEdges {
    private static final int NONE = Amendmark.NONE;
    private static final Class<?> ARGUMENT = IllegalArgumentException.class;

    private TermEdges() {
    }

    static void run() {
        Doc.open("Terms");
        Doc.tells("Days, acts", "Labels, provisions, words");
        daysBeginAtZero();
        tenActs();
        fortyInstructions();
        addedOnTheDayOfTheAct();
        territories();
        sunset();
        commencesOnAToldDay();
        commencesByAnOrder();
        commencesWithAnother();
        orderedOnce();
        struckOnce();
        suspendedOnce();
        daysGoneBy();
        known();
        labels();
        labelsInOrder();
        twentyProvisions();
        twelveWords();
        inAnotherOne();
        plainWords();
        followingWords();
        frozenWords();
    }

    private static void daysBeginAtZero() {
        Doc.says("Days are counted from 0; today is the day 0 at first.");
        Book book = Book.withText(1);
        Check.argument("the day -1", () -> book.law.look(-1, 0, 0));
        Check.argument("known on -1", () -> book.law.look(0, -1, 0));
        Check.argument("known on the day 1", () -> book.law.look(0, 1, 0));
        Check.same("known on the day 0", book.law.look(0, 0, 0), 1);
        Check.same("a day later", book.law.pass(1), 1);
        Check.same("known on the day 1", book.law.look(0, 1, 0), 1);
    }

    private static void tenActs() {
        Doc.says("Acts are numbered from 0, at most 10; an act is made on a day.");
        Amendmark law = new Amendmark();
        for (int k = 0; k < 10; k++) {
            Check.same("an act", law.act(), k);
            if (k % 3 == 0) {
                law.pass(1);
            }
        }
        Check.state("an eleventh act", law::act);
        law.pass(1);
        Check.state("an eleventh act on another day", law::act);
    }

    private static void fortyInstructions() {
        Doc.says("Instructions are numbered from 0 over all acts, at most 40;");
        Book book = Book.withText();
        for (int i = 1; i < 40; i++) {
            if (i % 5 == 0) {
                book.tomorrow();
            } else if (i % 14 == 0) {
                book.law.act();
            }
            Check.same("an instruction", book.insert(0, Book.of(), 1), i);
        }
        book.law.word(1, true);
        Check.state("a 41st instruction", () -> book.law.instruct(Amendmark.INSERT, 0, 0, 0));
        Check.state("a 41st one that is an ENACT", () -> book.law.enact(NONE, 2, 0));
        Check.same("the last one is there", book.law.commences(39), NONE);
        Check.index("the one behind it is not", () -> book.law.commences(40));
    }

    private static void addedOnTheDayOfTheAct() {
        Doc.says("an instruction is added to an act on the day on which that is made.");
        Book book = Book.withText(1);
        Check.same("on the same day", book.renumber(0, 2), 1);
        book.law.pass(1);
        Check.state("an ENACT a day later", () -> book.law.enact(NONE, 9, 0));
        Check.state("another one a day later", () -> book.law.instruct(Amendmark.REPEAL, 0, 0, 0));
        book.law.act();
        Check.same("to an act of that day", book.renumber(0, 3), 2);
        Check.same("an ENACT too", book.enact(NONE, 9), 1);
    }

    private static void territories() {
        Doc.says("An instruction has territories, a set of the territories 0 to 2;");
        for (int set = 1; set <= 7; set++) {
            Book book = Book.withAct();
            book.terms(Amendmark.ON_DAY, 0, set, NONE);
            book.enact(NONE, 1);
            for (int t = 0; t < 3; t++) {
                Check.same("the set " + set + " in " + t, book.law.look(0, 0, t), (set & (1 << t)) == 0 ? 0 : 1);
            }
        }
    }

    private static void sunset() {
        Doc.says("it may have a sunset, a day from which on it has no effect;");
        int[][] sunsetAndLastDay = {{NONE, 5000}, {0, NONE}, {1, 0}, {7, 6}, {4999, 4998}, {5000, 4999}};
        for (int[] row : sunsetAndLastDay) {
            Book book = Book.withAct();
            book.terms(Amendmark.ON_DAY, 0, 7, row[0]);
            book.enact(NONE, 1);
            for (int day : new int[] {0, 1, 2, 5, 6, 7, 8, 4998, 4999, 5000}) {
                Check.same("the sunset " + row[0] + " on " + day, book.law.look(day, 0, 0), day <= row[1] ? 1 : 0);
            }
        }
    }

    private static void commencesOnAToldDay() {
        Doc.says("and it commences: on a told day, also one gone by;");
        Book book = new Book();
        book.law.pass(10);
        book.law.act();
        int[] told = {0, 9, 10, 11, 5000};
        for (int k = 0; k < told.length; k++) {
            book.on(told[k]);
            book.enact(NONE, k + 1);
            Check.same("commences on the told day", book.law.look(told[k], 10, 0), k + 1);
            Check.same("the day", book.law.commences(k), told[k]);
            if (told[k] > 0) {
                Check.same("not a day ahead of it", book.law.look(told[k] - 1, 10, 0), k);
            }
        }
    }

    private static void commencesByAnOrder() {
        Doc.says("or by an order, on the day that this tells;");
        for (int day : new int[] {0, 2, 3, 4, 5000}) {
            Book book = Book.withAct();
            book.withOrder();
            book.enact(NONE, 1);
            Check.same("not without an order", book.law.look(5000, 0, 0), 0);
            book.law.pass(3);
            book.order(0, day);
            Check.same("on the day " + day, book.law.look(day, 3, 0), 1);
            Check.same("the day", book.law.commences(0), day);
            if (day > 0) {
                Check.same("not ahead of the day " + day, book.law.look(day - 1, 3, 0), 0);
            }
        }
    }

    private static void commencesWithAnother() {
        Doc.says("or with another, earlier instruction, on the same day.");
        Book book = Book.withAct();
        book.on(4);
        book.enact(NONE, 1);
        Check.index("with itself, that is not there yet", () -> book.terms(Amendmark.WITH, 1, 7, NONE));
        book.with(0);
        book.enact(NONE, 2);
        // A chain up to the last instruction that there can be.
        for (int i = 2; i < 40; i++) {
            book.with(i - 1);
            book.renumber(1, i);
        }
        Check.same("a day ahead", book.law.look(3, 0, 0), 0);
        Check.same("the last one, a day ahead", book.law.state(39), Amendmark.IDLE);
        Check.same("on the same day", book.law.look(4, 0, 0), 2);
        Check.same("the last one", book.law.state(39), Amendmark.DONE);
        Check.same("its day", book.law.commences(39), 4);
        Check.same("its label", book.law.label(1), 39000);
    }

    private static void orderedOnce() {
        Doc.says("On the same day, or on a later one, an order can be made for an instruction that waits for one, once;");
        Book book = Book.withAct();
        book.withOrder();
        book.enact(NONE, 1);
        book.enact(NONE, 2);
        book.with(0);
        book.enact(NONE, 3);
        book.on(0);
        book.enact(NONE, 4);
        Check.refuses("on the same day", () -> book.order(0, 6), null);
        Check.state("a second time, for another day", () -> book.order(0, 7));
        Check.state("a second time, for the same day", () -> book.order(0, 6));
        book.law.pass(500);
        Check.refuses("on a later day", () -> book.order(1, 5000), null);
        Check.state("a second time", () -> book.order(1, 5000));
        Check.state("for one that commences with another", () -> book.order(2, 0));
        Check.state("for one that commences on a day", () -> book.order(3, 0));
        book.law.look(0, 500, 0);
        Check.same("the first order stands", book.law.commences(0), 6);
        Check.same("one with it", book.law.commences(2), 6);
        Check.same("one of a day", book.law.commences(3), 0);
    }

    private static void struckOnce() {
        Doc.says("an instruction can be struck down from a day on, once;");
        Book book = Book.withText(1);
        book.enact(NONE, 2);
        book.strike(0, 5);
        Check.state("a second time, from another day on", () -> book.strike(0, 3));
        Check.state("a second time, from the same day on", () -> book.strike(0, 5));
        book.law.pass(1);
        Check.state("on another day", () -> book.strike(0, 3));
        Check.refuses("another one", () -> book.strike(1, 4), null);
        book.law.look(4, 1, 0);
        book.stands("di");
        book.law.look(5, 1, 0);
        book.stands("ii");
        book.law.look(5000, 1, 0);
        book.stands("ii");
    }

    private static void suspendedOnce() {
        Doc.says("and it can be suspended from a day to another one, both with them, once.");
        Book book = Book.withText(1);
        book.enact(NONE, 2);
        book.suspend(0, 5, 7);
        Check.state("a second time, other days", () -> book.suspend(0, 10, 11));
        Check.state("a second time, the same days", () -> book.suspend(0, 5, 7));
        Check.refuses("another one, for a day", () -> book.suspend(1, 6, 6), null);
        String[] due = {"dd", "id", "ii", "id", "dd", "dd", "dd", "dd"};
        for (int day = 4; day < 12; day++) {
            book.law.look(day, 0, 0);
            book.stands(due[day - 4]);
        }
    }

    private static void daysGoneBy() {
        Doc.says("All of these may tell days gone by.");
        Book book = Book.withAct();
        book.withOrder();
        book.enact(NONE, 1);
        book.enact(NONE, 2);
        book.on(0);
        book.enact(NONE, 3);
        book.enact(NONE, 4);
        book.law.pass(20);
        book.order(0, 0);
        book.order(1, 19);
        book.strike(2, 1);
        book.suspend(3, 0, 18);
        String[] due = {"didi", "diii", "diii", "ddid"};
        int[] days = {0, 1, 18, 19};
        for (int k = 0; k < days.length; k++) {
            book.law.look(days[k], 20, 0);
            book.stands(due[k]);
        }
    }

    private static void known() {
        Doc.says("Something is known on a day, if it was made on that day or ahead of it.");
        Book book = new Book();
        book.law.pass(2);
        book.law.act();
        book.enact(NONE, 1);
        book.withOrder();
        book.enact(NONE, 2);
        book.law.pass(2);
        book.order(1, 0);
        book.law.pass(2);
        book.suspend(0, 0, 5000);
        book.law.pass(2);
        book.strike(1, 0);
        String[] due = {"ii", "ii", "di", "di", "dd", "dd", "id", "id", "ii"};
        for (int day = 0; day < due.length; day++) {
            book.law.look(9, day, 0);
            book.stands(due[day]);
        }
    }

    private static String letters(int told) {
        StringBuilder text = new StringBuilder();
        if (told > 27) {
            text.append((char) ('a' + told / 27 - 1));
        }
        if (told > 0) {
            text.append((char) ('a' + told % 27 - 1));
        }
        return text.toString();
    }

    private static void labels() {
        Doc.says("A label is a number, 1 to 99, and up to 2 letters, a to z;");
        for (int number = -1; number <= 101; number++) {
            int told = number;
            boolean fits = number >= 1 && number <= 99;
            Check.refuses("the number " + number, () -> Book.withAct().law.enact(NONE, told, 0), fits ? null : ARGUMENT);
        }
        for (int told = -1; told <= 760; told++) {
            Book book = Book.withText(1);
            int letters = told;
            boolean fits = told == 0 || told > 0 && told <= 26 * 27 + 26 && told % 27 != 0;
            Check.refuses("the letters " + told, () -> book.law.enact(NONE, 2, letters), fits ? null : ARGUMENT);
            if (fits) {
                Check.same("the label of the letters " + told, book.law.label(1), 2000 + told);
            }
        }
    }

    private static void labelsInOrder() {
        Doc.says("labels are in order by numbers, then by letters as words are in a book: 5, 5a, 5aa, 5ab, 5b, 6.");
        List<Integer> told = new ArrayList<>();
        for (int letters = 0; letters <= 728; letters++) {
            if (letters == 0 || letters % 27 != 0) {
                told.add(letters);
            }
        }
        told.sort((a, b) -> letters(a).compareTo(letters(b)));
        Check.same("all labels of a number", told.size(), 1 + 26 + 26 * 26);
        // Each next two stand in one code at least, and the first and the last one beside the numbers 4 and 6.
        for (int first = 0; first < told.size(); first += 15) {
            inBookOrder(told.subList(first, Math.min(told.size(), first + 16)));
        }
        inBookOrder(List.of(0, 1, 27 + 1, 27 + 2, 2, 728));
    }

    /** Enacts labels of the number 5 in another order, between 4zz and 6, and looks whether they come as told. */
    private static void inBookOrder(List<Integer> told) {
        Book book = Book.withAct();
        List<Integer> shuffled = new ArrayList<>(told);
        Collections.rotate(shuffled, told.size() / 2);
        Collections.reverse(shuffled);
        book.law.enact(NONE, 6, 0);
        for (int letters : shuffled) {
            book.law.enact(NONE, 5, letters);
        }
        book.law.enact(NONE, 4, 728);
        Check.same("first", book.law.label(book.law.provisionAt(0)), 4728);
        for (int k = 0; k < told.size(); k++) {
            Check.same("label " + k, book.law.label(book.law.provisionAt(k + 1)), 5000 + told.get(k));
        }
        Check.same("last", book.law.label(book.law.provisionAt(told.size() + 1)), 6000);
    }

    private static void twentyProvisions() {
        Doc.says("Provisions are numbered from 0, at most 20: one comes with each ENACT.");
        Book book = Book.withAct();
        for (int p = 0; p < 20; p++) {
            // Also with one that fails: each second one has a label that is there already.
            Check.same("a provision", book.enact(NONE, 1 + p / 2), p);
            book.renumber(0, 1);
        }
        Check.state("a 21st one", () -> book.law.enact(NONE, 50, 0));
        Check.same("the last one", book.law.label(19), NONE);
        Check.same("the one ahead of it", book.law.label(18), 10000);
        Check.index("the 21st one", () -> book.law.label(20));
        Book other = Book.withAct();
        for (int p = 0; p < 20; p++) {
            other.enact(NONE, p + 1);
        }
        Check.state("a 21st one, where instructions have room", () -> other.law.enact(NONE, 50, 0));
        Check.same("they have", other.repeal(19), 20);
        Check.state("a 21st one, though one is not there any more", () -> other.law.enact(NONE, 50, 0));
    }

    private static void twelveWords() {
        Doc.says("A provision has a label, words, at most 12,");
        Book book = Book.withText(1, 2, 3, 4);
        book.insert(0, Book.of(), 5, 6, 7, 8);
        book.insert(0, Book.of(), 9, 10, 11);
        book.insert(0, Book.of(), 12, 13);
        book.stands("dddf");
        book.insert(0, Book.of(), 12);
        book.reads(0, "1 2 3 4 5 6 7 8 9 10 11 12");
        book.insert(0, Book.of(), 13);
        book.stands("dddfdf");
        Check.same("words", book.law.words(0), 12);
        Book none = Book.withText();
        Check.same("no words", none.law.words(0), 0);
    }

    private static void inAnotherOne() {
        Doc.says("and may be in another one, which is not in it.");
        Book book = Book.withAct();
        for (int p = 0; p < 20; p++) {
            Check.same("a provision", book.enact(p - 1, p + 1), p);
            Check.same("in another one", book.law.parent(p), p - 1);
        }
        for (int p = 0; p < 20; p++) {
            Check.same("not in one in it", book.law.state(book.move(0, p)), Amendmark.FAILED);
        }
        Check.index("nor in one that comes with it", () -> Book.withAct().law.enact(0, 1, 0));
    }

    private static void plainWords() {
        Doc.says("A word is a number: 0 to 99 a plain one;");
        Book book = Book.withText(0, 1, 98, 99);
        for (int k = 0; k < 4; k++) {
            Check.same("a plain word refers to none", book.law.refers(0, k), NONE);
        }
        book.reads(0, "0 1 98 99");
    }

    /** Twenty provisions, the first of them with a word, and labels that differ from their numbers. */
    private static Book withTwenty(int... words) {
        Book book = Book.withText(words);
        for (int p = 1; p < 20; p++) {
            book.enact(NONE, 40 - p);
        }
        return book;
    }

    private static void followingWords() {
        Doc.says("100 to 119 a reference that follows, to the provision with the number less 100;");
        Book book = withTwenty(100, 101, 118, 119);
        book.on(3);
        book.renumber(19, 50);
        int[] due = {1000, 39000, 22000, 21000};
        for (int k = 0; k < 4; k++) {
            Check.same("word " + k, book.law.refers(0, k), due[k]);
        }
        book.law.look(3, 0, 0);
        Check.same("the last one follows", book.law.refers(0, 3), 50000);
    }

    private static void frozenWords() {
        Doc.says("120 to 139 a frozen one, to that with the number less 120.");
        Book book = withTwenty(120, 121, 138, 139);
        book.on(3);
        book.renumber(0, 51);
        book.renumber(19, 50);
        int[] due = {1000, 39000, 22000, 21000};
        for (int day : new int[] {0, 3}) {
            book.law.look(day, 0, 0);
            for (int k = 0; k < 4; k++) {
                Check.same("word " + k + " on " + day, book.law.refers(0, k), due[k]);
            }
        }
        Check.argument("a word beyond", () -> book.law.word(140, true));
    }
}
