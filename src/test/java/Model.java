import java.util.ArrayList;
import java.util.Comparator;
import java.util.HashMap;
import java.util.List;
import java.util.Map;

/**
 * The document once more, in the plainest words of the Java library: each question makes its view from nothing,
 * as nodes in a tree. Nothing is shared with the program, so that a slip in one shows against the other.
 */
final class Model {
    static final class Instruction {
        int act;
        int made;
        int kind;
        int of;
        int target;
        int number;
        int letters;
        int how;
        int what;
        int territories;
        int sunset;
        List<Integer> searched;
        List<Integer> fresh;
        int[] order;
        int[] strike;
        int[] suspension;
    }

    static final class Node {
        int provision;
        int number;
        String letters;
        int told;
        Node in;
        final List<Node> inner = new ArrayList<>();
        List<int[]> words = new ArrayList<>();
    }

    private static final class Snapshot {
        final Map<Integer, Node> there = new HashMap<>();
        final List<Node> top = new ArrayList<>();
        final Map<Integer, Boolean> outcome = new HashMap<>();
        final Map<Integer, List<Integer>> fresh = new HashMap<>();
    }

    private final List<Instruction> all = new ArrayList<>();
    private final List<Integer> actDays = new ArrayList<>();
    private int provisions = 0;
    private int today = 0;
    private int how = 0;
    private int what = 0;
    private int territories = 7;
    private int sunset = -1;
    private List<Integer> searched = new ArrayList<>();
    private List<Integer> fresh = new ArrayList<>();
    private int day = 0;
    private int known = 0;
    private int territory = 0;

    /** What was done by kind and outcome over all views asked for, to tell that a run reaches everything. */
    final int[][] reached = new int[8][3];

    int today() {
        return today;
    }

    int provisionCount() {
        return provisions;
    }

    int instructionCount() {
        return all.size();
    }

    boolean hasWords() {
        return !searched.isEmpty() || !fresh.isEmpty();
    }

    boolean canAdd() {
        return all.size() < 40 && (actDays.size() < 10 || actDays.get(actDays.size() - 1) == today);
    }

    boolean wantsAct() {
        return actDays.size() < 10 && (actDays.isEmpty() || actDays.get(actDays.size() - 1) != today);
    }

    int pass(int days) {
        argument(days >= 1 && days <= 500);
        state(today + days <= 5000);
        return today += days;
    }

    int act() {
        state(actDays.size() < 10);
        actDays.add(today);
        return actDays.size() - 1;
    }

    void terms(int how, int what, int territories, int sunset) {
        index(how != 2 || isInstruction(what));
        argument(how >= 0 && how <= 2 && (how != 0 || isDay(what)));
        argument(territories >= 1 && territories <= 7 && (sunset == -1 || isDay(sunset)));
        this.how = how;
        this.what = what;
        this.territories = territories;
        this.sunset = sunset;
    }

    int word(int word, boolean isNew) {
        argument(word >= 0 && word <= 139);
        List<Integer> to = isNew ? fresh : searched;
        state(to.size() < 4);
        to.add(word);
        return to.size();
    }

    int enact(int in, int number, int letters) {
        index(in == -1 || isProvision(in));
        argument(isLabel(number, letters));
        state(!actDays.isEmpty() && actDays.get(actDays.size() - 1) == today);
        state(all.size() < 40 && provisions < 20 && searched.isEmpty());
        add(0, provisions, in, number, letters);
        return provisions++;
    }

    int instruct(int kind, int provision, int first, int letters) {
        index(kind == 7 ? isInstruction(provision) : isProvision(provision));
        index(kind != 5 || first == -1 || isProvision(first));
        argument(kind >= 1 && kind <= 7 && (kind != 4 || isLabel(first, letters)));
        state(!actDays.isEmpty() && actDays.get(actDays.size() - 1) == today && all.size() < 40);
        state(kind != 2 && kind != 3 || !searched.isEmpty());
        state(kind != 1 || !fresh.isEmpty());
        state(kind < 4 || searched.isEmpty());
        state(kind < 3 || kind == 7 || fresh.isEmpty());
        add(kind, provision, first, first, letters);
        return all.size() - 1;
    }

    private void add(int kind, int of, int target, int number, int letters) {
        Instruction one = new Instruction();
        one.act = actDays.size() - 1;
        one.made = today;
        one.kind = kind;
        one.of = of;
        one.target = target;
        one.number = number;
        one.letters = letters;
        one.how = how;
        one.what = what;
        one.territories = territories;
        one.sunset = sunset;
        one.searched = searched;
        one.fresh = fresh;
        all.add(one);
        searched = new ArrayList<>();
        fresh = new ArrayList<>();
    }

    void order(int instruction, int day) {
        index(isInstruction(instruction));
        argument(isDay(day));
        state(all.get(instruction).how == 1 && all.get(instruction).order == null);
        all.get(instruction).order = new int[] {today, day};
    }

    void strike(int instruction, int day) {
        index(isInstruction(instruction));
        argument(isDay(day));
        state(all.get(instruction).strike == null);
        all.get(instruction).strike = new int[] {today, day};
    }

    void suspend(int instruction, int from, int to) {
        index(isInstruction(instruction));
        argument(isDay(from) && isDay(to) && from <= to);
        state(all.get(instruction).suspension == null);
        all.get(instruction).suspension = new int[] {today, from, to};
    }

    int look(int day, int known, int territory) {
        argument(isDay(day) && known >= 0 && known <= today && territory >= 0 && territory <= 2);
        this.day = day;
        this.known = known;
        this.territory = territory;
        return view().there.size();
    }

    int provisionAt(int place) {
        index(place >= 0);
        List<Node> code = new ArrayList<>();
        list(view().top, code);
        return place < code.size() ? code.get(place).provision : -1;
    }

    int label(int provision) {
        index(isProvision(provision));
        return labelIn(view(), provision);
    }

    int parent(int provision) {
        index(isProvision(provision));
        Node node = view().there.get(provision);
        return node == null || node.in == null ? -1 : node.in.provision;
    }

    int words(int provision) {
        index(isProvision(provision));
        Node node = view().there.get(provision);
        return node == null ? -1 : node.words.size();
    }

    int wordAt(int provision, int place) {
        return wordWithOrigin(provision, place)[0];
    }

    int wordAnew(int provision, int place) {
        index(isProvision(provision) && place >= 0);
        Node node = view().there.get(provision);
        return node == null || place >= node.words.size() ? -1 : node.words.get(place)[0];
    }

    int origin(int provision, int place) {
        return wordWithOrigin(provision, place)[1];
    }

    int refers(int provision, int place) {
        int[] word = wordWithOrigin(provision, place);
        if (word[0] < 100) {
            return -1;
        }
        if (word[0] < 120) {
            return labelIn(view(), word[0] - 100);
        }
        return labelIn(viewOf(beginning(word[1], known), known, territory), word[0] - 120);
    }

    int state(int instruction) {
        index(isInstruction(instruction));
        Boolean outcome = view().outcome.get(instruction);
        int state = outcome == null ? 0 : outcome ? 1 : 2;
        reached[all.get(instruction).kind][state]++;
        return state;
    }

    int commences(int instruction) {
        index(isInstruction(instruction));
        return beginning(instruction, known);
    }

    int conflicts() {
        Snapshot view = view();
        int found = 0;
        for (int i = 0; i < all.size(); i++) {
            for (int j = i + 1; j < all.size(); j++) {
                Instruction a = all.get(i);
                Instruction b = all.get(j);
                boolean kinds = a.kind != 0 && a.kind != 7 && b.kind != 0 && b.kind != 7;
                boolean done = Boolean.TRUE.equals(view.outcome.get(i)) && Boolean.TRUE.equals(view.outcome.get(j));
                if (kinds && done && a.act != b.act && a.of == b.of && beginning(i, known) == beginning(j, known)) {
                    found++;
                }
            }
        }
        return found;
    }

    long print() {
        List<Node> code = new ArrayList<>();
        list(view().top, code);
        long print = 11;
        for (Node node : code) {
            print = print * 31 + node.provision;
            print = print * 31 + node.told;
            print = print * 31 + node.words.size();
            for (int[] word : node.words) {
                print = print * 31 + word[0];
                print = print * 31 + word[1];
            }
        }
        return print;
    }

    // ---- a view

    private Snapshot view() {
        return viewOf(day, known, territory);
    }

    private Snapshot viewOf(int day, int known, int territory) {
        List<Integer> turns = new ArrayList<>();
        for (int i = 0; i < all.size(); i++) {
            if (isInEffect(i, day, known, territory)) {
                turns.add(i);
            }
        }
        turns.sort(Comparator.comparingInt((Integer i) -> beginning(i, known)).thenComparingInt(i -> i));
        Snapshot view = new Snapshot();
        for (int i : turns) {
            view.outcome.put(i, carryOut(view, i));
        }
        return view;
    }

    private int beginning(int i, int known) {
        Instruction one = all.get(i);
        if (one.made > known) {
            return -1;
        }
        if (one.how == 2) {
            return beginning(one.what, known);
        }
        if (one.how == 0) {
            return one.what;
        }
        return one.order == null || one.order[0] > known ? -1 : one.order[1];
    }

    private boolean isInEffect(int i, int day, int known, int territory) {
        Instruction one = all.get(i);
        int beginning = beginning(i, known);
        if (beginning < 0 || beginning > day) {
            return false;
        }
        if ((one.territories & (1 << territory)) == 0 || (one.sunset >= 0 && day >= one.sunset)) {
            return false;
        }
        if (one.strike != null && one.strike[0] <= known && day >= one.strike[1]) {
            return false;
        }
        return one.suspension == null || one.suspension[0] > known || day < one.suspension[1] || day > one.suspension[2];
    }

    private boolean carryOut(Snapshot view, int i) {
        Instruction one = all.get(i);
        if (one.kind == 7) {
            boolean late = view.outcome.containsKey(one.of);
            if (!late) {
                view.fresh.put(one.of, one.fresh);
            }
            return !late;
        }
        if (one.kind == 0) {
            return enactIn(view, i);
        }
        Node node = view.there.get(one.of);
        if (node == null) {
            return false;
        }
        if (one.kind == 4) {
            return rename(view, node, one.number, one.letters);
        }
        if (one.kind == 5) {
            return moveTo(view, node, one.target);
        }
        if (one.kind == 6) {
            beside(view, node.in).remove(node);
            forget(view, node);
            return true;
        }
        List<int[]> words = reworded(one, i, node.words, view.fresh.getOrDefault(i, one.fresh));
        if (words == null || words.size() > 12) {
            return false;
        }
        node.words = words;
        return true;
    }

    private boolean enactIn(Snapshot view, int i) {
        Instruction one = all.get(i);
        Node in = one.target == -1 ? null : view.there.get(one.target);
        if (one.target != -1 && in == null) {
            return false;
        }
        Node node = new Node();
        node.provision = one.of;
        node.in = in;
        give(node, one.number, one.letters);
        for (int word : view.fresh.getOrDefault(i, one.fresh)) {
            node.words.add(new int[] {word, i});
        }
        if (hasTwin(beside(view, in), node)) {
            return false;
        }
        beside(view, in).add(node);
        view.there.put(one.of, node);
        return true;
    }

    private boolean rename(Snapshot view, Node node, int number, int letters) {
        Node renamed = new Node();
        give(renamed, number, letters);
        List<Node> others = new ArrayList<>(beside(view, node.in));
        others.remove(node);
        if (hasTwin(others, renamed)) {
            return false;
        }
        give(node, number, letters);
        return true;
    }

    private boolean moveTo(Snapshot view, Node node, int target) {
        Node to = target == -1 ? null : view.there.get(target);
        if (target != -1 && to == null) {
            return false;
        }
        for (Node at = to; at != null; at = at.in) {
            if (at == node) {
                return false;
            }
        }
        List<Node> others = new ArrayList<>(beside(view, to));
        others.remove(node);
        if (hasTwin(others, node)) {
            return false;
        }
        beside(view, node.in).remove(node);
        beside(view, to).add(node);
        node.in = to;
        return true;
    }

    private void forget(Snapshot view, Node node) {
        view.there.remove(node.provision);
        for (Node inner : node.inner) {
            forget(view, inner);
        }
    }

    /** The words behind INSERT, SUBSTITUTE or OMIT; null if the searched ones are not found. */
    private static List<int[]> reworded(Instruction one, int i, List<int[]> words, List<Integer> fresh) {
        List<int[]> out = new ArrayList<>();
        boolean found = false;
        int at = 0;
        while (at < words.size()) {
            boolean here = !one.searched.isEmpty() && startsAt(words, at, one.searched) && (one.kind == 2 || !found);
            if (!here) {
                out.add(words.get(at));
                at++;
                continue;
            }
            found = true;
            if (one.kind == 3) {
                return out;
            }
            if (one.kind == 1) {
                out.addAll(words.subList(at, at + one.searched.size()));
            }
            addAll(out, fresh, i);
            at += one.searched.size();
        }
        if (one.kind == 1 && one.searched.isEmpty()) {
            addAll(out, fresh, i);
            found = true;
        }
        return found ? out : null;
    }

    private static void addAll(List<int[]> out, List<Integer> fresh, int i) {
        for (int word : fresh) {
            out.add(new int[] {word, i});
        }
    }

    private static boolean startsAt(List<int[]> words, int at, List<Integer> searched) {
        if (at + searched.size() > words.size()) {
            return false;
        }
        for (int k = 0; k < searched.size(); k++) {
            if (words.get(at + k)[0] != searched.get(k)) {
                return false;
            }
        }
        return true;
    }

    private static List<Node> beside(Snapshot view, Node in) {
        return in == null ? view.top : in.inner;
    }

    private static boolean hasTwin(List<Node> nodes, Node node) {
        for (Node other : nodes) {
            if (other.number == node.number && other.letters.equals(node.letters)) {
                return true;
            }
        }
        return false;
    }

    private static void give(Node node, int number, int letters) {
        StringBuilder text = new StringBuilder();
        if (letters >= 27) {
            text.append((char) ('a' + letters / 27 - 1));
        }
        if (letters > 0) {
            text.append((char) ('a' + letters % 27 - 1));
        }
        node.number = number;
        node.letters = text.toString();
        node.told = 1000 * number + letters;
    }

    private static void list(List<Node> nodes, List<Node> code) {
        List<Node> sorted = new ArrayList<>(nodes);
        sorted.sort(Comparator.comparingInt((Node node) -> node.number).thenComparing(node -> node.letters));
        for (Node node : sorted) {
            code.add(node);
            list(node.inner, code);
        }
    }

    private static int labelIn(Snapshot view, int provision) {
        Node node = view.there.get(provision);
        return node == null ? -1 : node.told;
    }

    private int[] wordWithOrigin(int provision, int place) {
        index(isProvision(provision));
        Node node = view().there.get(provision);
        index(node != null && place >= 0 && place < node.words.size());
        return node.words.get(place);
    }

    private boolean isInstruction(int i) {
        return i >= 0 && i < all.size();
    }

    private boolean isProvision(int p) {
        return p >= 0 && p < provisions;
    }

    private static boolean isDay(int day) {
        return day >= 0 && day <= 5000;
    }

    private static boolean isLabel(int number, int letters) {
        return number >= 1 && number <= 99 && letters >= 0 && letters <= 728 && (letters == 0 || letters % 27 != 0);
    }

    private static void index(boolean fits) {
        if (!fits) {
            throw new IndexOutOfBoundsException();
        }
    }

    private static void argument(boolean fits) {
        if (!fits) {
            throw new IllegalArgumentException();
        }
    }

    private static void state(boolean fits) {
        if (!fits) {
            throw new IllegalStateException();
        }
    }
}
