/** An Amendmark with short calls for the tests: words as arrays, labels without letters. */
final class Book {
    final Amendmark law = new Amendmark();

    static Book withAct() {
        Book book = new Book();
        book.law.act();
        return book;
    }

    /** An act of the day 0 with one provision, 1, that has words. */
    static Book withText(int... words) {
        Book book = withAct();
        book.enact(Amendmark.NONE, 1, words);
        return book;
    }

    static int[] of(int... words) {
        return words;
    }

    void on(int day) {
        law.terms(Amendmark.ON_DAY, day, 7, Amendmark.NONE);
    }

    void withOrder() {
        law.terms(Amendmark.BY_ORDER, 0, 7, Amendmark.NONE);
    }

    void with(int instruction) {
        law.terms(Amendmark.WITH, instruction, 7, Amendmark.NONE);
    }

    /** A day later, in an act of its own. */
    void tomorrow() {
        law.pass(1);
        law.act();
    }

    long terms(int how, int what, int territories, int sunset) {
        law.terms(how, what, territories, sunset);
        return 0;
    }

    long order(int instruction, int day) {
        law.order(instruction, day);
        return 0;
    }

    long strike(int instruction, int day) {
        law.strike(instruction, day);
        return 0;
    }

    long suspend(int instruction, int from, int to) {
        law.suspend(instruction, from, to);
        return 0;
    }

    void say(int[] searched, int[] fresh) {
        for (int word : searched) {
            law.word(word, false);
        }
        for (int word : fresh) {
            law.word(word, true);
        }
    }

    int enact(int in, int number, int... fresh) {
        say(of(), fresh);
        return law.enact(in, number, 0);
    }

    int insert(int provision, int[] searched, int... fresh) {
        say(searched, fresh);
        return law.instruct(Amendmark.INSERT, provision, 0, 0);
    }

    int substitute(int provision, int[] searched, int... fresh) {
        say(searched, fresh);
        return law.instruct(Amendmark.SUBSTITUTE, provision, 0, 0);
    }

    int omit(int provision, int... searched) {
        say(searched, of());
        return law.instruct(Amendmark.OMIT, provision, 0, 0);
    }

    int renumber(int provision, int number) {
        return law.instruct(Amendmark.RENUMBER, provision, number, 0);
    }

    int move(int provision, int in) {
        return law.instruct(Amendmark.MOVE, provision, in, 0);
    }

    int repeal(int provision) {
        return law.instruct(Amendmark.REPEAL, provision, 0, 0);
    }

    int amend(int instruction, int... fresh) {
        say(of(), fresh);
        return law.instruct(Amendmark.AMEND, instruction, 0, 0);
    }

    /** The words of a provision in the view; null if it is not there. */
    String text(int provision) {
        int count = law.words(provision);
        if (count == Amendmark.NONE) {
            return "none";
        }
        StringBuilder text = new StringBuilder();
        for (int k = 0; k < count; k++) {
            text.append(k == 0 ? "" : " ").append(law.wordAt(provision, k));
        }
        return text.toString();
    }

    String origins(int provision) {
        StringBuilder text = new StringBuilder();
        for (int k = 0; k < law.words(provision); k++) {
            text.append(k == 0 ? "" : " ").append(law.origin(provision, k));
        }
        return text.toString();
    }

    void comesFrom(int provision, String due) {
        String got = origins(provision);
        Check.holds("the origins in " + provision + " are '" + got + "', due is '" + due + "'", got.equals(due));
    }

    /** The provisions in the view by the order of the code. */
    String code() {
        StringBuilder text = new StringBuilder();
        for (int k = 0; law.provisionAt(k) != Amendmark.NONE; k++) {
            text.append(k == 0 ? "" : " ").append(law.provisionAt(k));
        }
        return text.toString();
    }

    /** What the instructions are in the view: i, d or f. */
    String states(int count) {
        StringBuilder text = new StringBuilder();
        for (int i = 0; i < count; i++) {
            text.append("idf".charAt(law.state(i)));
        }
        return text.toString();
    }

    void reads(int provision, String due) {
        String got = text(provision);
        Check.holds("provision " + provision + " reads '" + got + "', due is '" + due + "'", got.equals(due));
    }

    void stands(String due) {
        String got = states(due.length());
        Check.holds("the states are " + got + ", due is " + due, got.equals(due));
    }

    void lists(String due) {
        String got = code();
        Check.holds("the code is '" + got + "', due is '" + due + "'", got.equals(due));
    }
}
