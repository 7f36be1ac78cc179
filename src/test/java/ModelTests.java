/** Many runs of calls, always the same ones, each answer held against that of the model. */
final class ModelTests {
    private static final int RUNS = 4000;
    private static final int STEPS = 300;

    private long seed;
    private Amendmark law;
    private Model model;
    private final int[][] reached = new int[8][3];
    private int answers;
    private int refusals;
    private int conflicts;
    private int references;
    /** Of how many numbers the labels of this run are. */
    private int numbers;

    private int any(int bound) {
        seed = seed * 6364136223846793005L + 1442695040888963407L;
        return (int) ((seed >>> 33) % bound);
    }

    private boolean once(int in) {
        return any(in) == 0;
    }

    private int day() {
        if (once(30)) {
            return new int[] {-1, 5000, 5001, Integer.MIN_VALUE, Integer.MAX_VALUE}[any(5)];
        }
        return any(9);
    }

    private int provision() {
        if (once(40)) {
            return new int[] {-2, 20, 21, Integer.MIN_VALUE, Integer.MAX_VALUE}[any(5)];
        }
        int made = Math.max(1, model.provisionCount());
        return once(30) ? made : any(once(2) ? made : Math.min(made, 4));
    }

    private int provisionOrTop() {
        return once(3) ? -1 : provision();
    }

    private int instruction() {
        if (once(40)) {
            return new int[] {-1, 40, 41, Integer.MIN_VALUE, Integer.MAX_VALUE}[any(5)];
        }
        int made = Math.max(1, model.instructionCount());
        return once(40) ? made : any(made);
    }

    private int number() {
        return once(25) ? new int[] {0, 99, 100, -1, Integer.MAX_VALUE}[any(5)] : 1 + any(numbers);
    }

    private int letters() {
        if (once(3)) {
            return 0;
        }
        return once(12) ? any(740) - 5 : new int[] {1, 2, 28, 29, 55, 26, 728}[any(7)];
    }

    private int word() {
        if (once(30)) {
            return new int[] {-1, 140, 99, 139, Integer.MAX_VALUE}[any(5)];
        }
        int kind = any(5);
        return kind == 3 ? 100 + any(4) : kind == 4 ? 120 + any(4) : 1 + any(3);
    }

    private int place() {
        return once(20) ? new int[] {-1, 12, 13, Integer.MIN_VALUE, Integer.MAX_VALUE}[any(5)] : any(once(2) ? 12 : 4);
    }

    /** The words that a kind uses, mostly. */
    private void say(int kind) {
        boolean searches = kind >= Amendmark.INSERT && kind <= Amendmark.OMIT;
        boolean hasNew = kind <= Amendmark.SUBSTITUTE || kind == Amendmark.AMEND;
        int searched = searches ? any(3) : once(30) ? 1 : 0;
        int fresh = hasNew ? any(5) : once(30) ? 1 : 0;
        if (model.hasWords() && !once(3)) {
            return;
        }
        for (int k = 0; k < searched; k++) {
            ask(3, word(), 0, 0, 0);
        }
        for (int k = 0; k < fresh; k++) {
            ask(3, word(), 1, 0, 0);
        }
    }

    private void step() {
        int choice = any(100);
        if (choice >= 4 && choice < 38 && !model.canAdd() && !once(10)) {
            choice += 42;
        }
        if (choice < 2) {
            ask(0, once(20) ? any(600) - 50 : 1 + any(3), 0, 0, 0);
        } else if (choice < 4) {
            ask(1, 0, 0, 0, 0);
        } else if (choice < 9) {
            tell();
        } else if (choice < 16) {
            actFirst();
            if (model.hasWords() && !once(10)) {
                instruct();
            }
            say(0);
            ask(4, provisionOrTop(), number(), letters(), 0);
        } else if (choice < 38) {
            actFirst();
            instruct();
        } else if (choice < 42) {
            ask(6, instruction(), day(), 0, 0);
        } else if (choice < 44) {
            ask(7, instruction(), day() + (once(2) ? 4 : 0), 0, 0);
        } else if (choice < 46) {
            int from = day();
            ask(8, instruction(), from, once(10) ? day() : from + any(3), 0);
        } else if (choice < 56) {
            lookAround();
        } else {
            ask(10 + any(13), provision(), place(), 0, 0);
        }
    }

    private void actFirst() {
        if (model.wantsAct() && !once(10)) {
            ask(1, 0, 0, 0, 0);
        }
    }

    private void tell() {
        int how = once(20) ? any(6) - 2 : once(2) ? Amendmark.ON_DAY : any(3);
        int what = how == Amendmark.WITH ? instruction() : day();
        ask(2, how, what, once(3) ? any(10) - 1 : 7, !once(3) ? -1 : once(2) ? day() + 5 : day());
    }

    private void lookAround() {
        int known = once(2) ? model.today() : any(model.today() + 1) + (once(10) ? 1 : 0);
        ask(9, once(2) ? 6 + any(4) : day(), known, once(20) ? any(5) - 1 : any(3), 0);
    }

    private void instruct() {
        int kind = once(30) ? any(20) - 6 : 1 + any(7);
        if (model.provisionCount() == 0 && !once(10)) {
            return;
        }
        if (model.hasWords() && !once(10)) {
            kind = 1 + any(2);
        } else if (kind == Amendmark.REPEAL && !once(3)) {
            kind = Amendmark.INSERT;
        }
        say(kind);
        int of = kind == Amendmark.AMEND ? instruction() : provision();
        int first = kind == Amendmark.MOVE ? provisionOrTop() : number();
        ask(5, kind, of, first, letters());
    }

    /** The same call of both, and what each answers. */
    private void ask(int call, int a, int b, int c, int d) {
        String got = answer(call, a, b, c, d, false);
        String due = answer(call, a, b, c, d, true);
        String what = "call " + call + " (" + a + ", " + b + ", " + c + ", " + d + ") of seed " + seed;
        if (!got.equals(due)) {
            Check.holds(what + " answered " + got + ", due is " + due, false);
        }
        answers++;
        if (due.startsWith("throws")) {
            refusals++;
        } else if (call == 21 && !due.equals("0")) {
            conflicts++;
        } else if (call == 18 && !due.equals("-1")) {
            references++;
        }
    }

    private String answer(int call, int a, int b, int c, int d, boolean ofModel) {
        try {
            return Long.toString(ofModel ? askModel(call, a, b, c, d) : askLaw(call, a, b, c, d));
        } catch (RuntimeException e) {
            boolean isFair = ofModel || Check.isThrownByTheProgram(e);
            return "throws " + e.getClass().getName() + (isFair ? "" : " of the machine");
        }
    }

    private long askLaw(int call, int a, int b, int c, int d) {
        switch (call) {
            case 0: return law.pass(a);
            case 1: return law.act();
            case 2: law.terms(a, b, c, d); return 0;
            case 3: return law.word(a, b == 1);
            case 4: return law.enact(a, b, c);
            case 5: return law.instruct(a, b, c, d);
            case 6: law.order(a, b); return 0;
            case 7: law.strike(a, b); return 0;
            case 8: law.suspend(a, b, c); return 0;
            case 9: return law.look(a, b, c);
            case 10: return law.provisionAt(b);
            case 11: return law.label(a);
            case 12: return law.parent(a);
            case 13: return law.words(a);
            case 14: return law.wordAt(a, b);
            case 15: return law.wordAnew(a, b);
            case 16: return law.origin(a, b);
            case 17: case 18: return law.refers(a, b);
            case 19: return law.state(a);
            case 20: return law.commences(a);
            case 21: return law.conflicts();
            default: return law.print();
        }
    }

    private long askModel(int call, int a, int b, int c, int d) {
        switch (call) {
            case 0: return model.pass(a);
            case 1: return model.act();
            case 2: model.terms(a, b, c, d); return 0;
            case 3: return model.word(a, b == 1);
            case 4: return model.enact(a, b, c);
            case 5: return model.instruct(a, b, c, d);
            case 6: model.order(a, b); return 0;
            case 7: model.strike(a, b); return 0;
            case 8: model.suspend(a, b, c); return 0;
            case 9: return model.look(a, b, c);
            case 10: return model.provisionAt(b);
            case 11: return model.label(a);
            case 12: return model.parent(a);
            case 13: return model.words(a);
            case 14: return model.wordAt(a, b);
            case 15: return model.wordAnew(a, b);
            case 16: return model.origin(a, b);
            case 17: case 18: return model.refers(a, b);
            case 19: return model.state(a);
            case 20: return model.commences(a);
            case 21: return model.conflicts();
            default: return model.print();
        }
    }

    /** Everything that can be asked of some views, behind the run. */
    private void askAll() {
        for (int k = 0; k < 6; k++) {
            lookAround();
            ask(21, 0, 0, 0, 0);
            ask(22, 0, 0, 0, 0);
            for (int i = 0; i <= model.instructionCount(); i++) {
                ask(19, i, 0, 0, 0);
                ask(20, i, 0, 0, 0);
            }
            for (int p = 0; p <= model.provisionCount(); p++) {
                ask(10, 0, p, 0, 0);
                ask(12, p, 0, 0, 0);
                for (int place = 0; place < 12; place++) {
                    ask(15, p, place, 0, 0);
                    ask(18, p, place, 0, 0);
                }
            }
        }
    }

    private void run(int number) {
        seed = number * 7919L + 17;
        law = new Amendmark();
        model = new Model();
        numbers = number % 2 == 0 ? 3 : 40;
        // Nearly every run begins with some provisions, for without one it would have little to do.
        for (int k = 0; k < 3 && !once(20); k++) {
            actFirst();
            ask(3, word(), 1, 0, 0);
            ask(3, word(), 1, 0, 0);
            ask(4, k == 2 ? provisionOrTop() : -1, k + 1, letters(), 0);
        }
        for (int k = 0; k < STEPS; k++) {
            step();
        }
        // Nothing is promised behind the 512th call; that the program goes on the same shows that nothing wears out.
        if (number % 8 == 0) {
            askAll();
        }
        for (int kind = 0; kind < 8; kind++) {
            for (int state = 0; state < 3; state++) {
                reached[kind][state] += model.reached[kind][state];
            }
        }
    }

    public static void main(String[] args) {
        ModelTests tests = new ModelTests();
        for (int number = 0; number < RUNS; number++) {
            tests.run(number);
        }
        for (int kind = 0; kind < 8; kind++) {
            for (int state = 0; state < 3; state++) {
                Check.holds("kind " + kind + " reaches state " + state, tests.reached[kind][state] > 100);
            }
        }
        Check.holds("some conflict", tests.conflicts > 100);
        Check.holds("some refer", tests.references > 100);
        Check.holds("some are refused, most are not", tests.refusals > 1000 && tests.refusals < tests.answers / 2);
        System.out.println(tests.answers + " answers, " + tests.refusals + " of them refusals, "
            + tests.conflicts + " with conflicts, " + tests.references + " with references, "
            + java.util.Arrays.deepToString(tests.reached));
        Check.end();
    }
}
