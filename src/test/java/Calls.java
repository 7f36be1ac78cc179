import java.util.ArrayList;
import java.util.HashMap;
import java.util.List;
import java.util.Map;
import java.util.Set;
import java.util.TreeMap;
import java.util.TreeSet;
import javax.lang.model.element.Element;

/** Who calls whom in the program, and how deep that goes: the library's calls are the last ones of a chain. */
final class Calls {
    private final Map<String, Set<String>> called = new TreeMap<>();
    private final Set<String> face = new TreeSet<>();
    private final Map<String, List<String>> longest = new HashMap<>();

    void face(Element method) {
        face.add(nameOf(method));
    }

    void add(Element caller, String callee) {
        called.computeIfAbsent(nameOf(caller), name -> new TreeSet<>()).add(callee);
    }

    private static String nameOf(Element method) {
        return method.getEnclosingElement() + "." + method;
    }

    void end(int deepest) {
        for (String one : face) {
            List<String> chain = chainFrom(one, new ArrayList<>());
            Check.holds("at most " + deepest + " calls deep: " + chain, chain.size() <= deepest);
        }
        Check.same("methods and constructors of the face", face.size(), 1 + 22);
    }

    private List<String> chainFrom(String method, List<String> open) {
        Check.holds("no recursion in " + method + ", behind " + open, !open.contains(method));
        if (open.contains(method)) {
            return List.of();
        }
        if (longest.containsKey(method)) {
            return longest.get(method);
        }
        open.add(method);
        List<String> best = List.of();
        for (String callee : called.getOrDefault(method, Set.of())) {
            List<String> chain = chainFrom(callee, open);
            best = chain.size() > best.size() ? chain : best;
        }
        open.remove(method);
        List<String> chain = new ArrayList<>();
        chain.add(method);
        chain.addAll(best);
        longest.put(method, chain);
        return chain;
    }
}
