import java.util.ArrayList;
import java.util.HashMap;
import java.util.List;
import java.util.Map;
import java.util.Set;
import java.util.TreeMap;
import java.util.TreeSet;

/** Which methods of the program call which others, without calls of a method by itself. */
final class CallGraph {
    private final Map<String, Set<String>> called = new TreeMap<>();
    private final Map<String, List<String>> longest = new HashMap<>();
    private final Set<String> circles = new TreeSet<>();

    void add(String caller, String method) {
        called.computeIfAbsent(caller, name -> new TreeSet<>()).add(method);
        longest.clear();
    }

    /** The number of methods on the longest way, its first one included. */
    int deepest() {
        return deepestWay().size();
    }

    List<String> deepestWay() {
        List<String> deepest = List.of();
        for (String method : called.keySet()) {
            List<String> way = wayFrom(method, new ArrayList<>());
            deepest = way.size() > deepest.size() ? way : deepest;
        }
        return deepest;
    }

    /** The ways on which a method is called again by one that it called. */
    Set<String> circles() {
        deepestWay();
        return circles;
    }

    private List<String> wayFrom(String method, List<String> above) {
        if (above.contains(method)) {
            circles.add(above.subList(above.indexOf(method), above.size()).toString());
            return List.of();
        }
        if (!longest.containsKey(method)) {
            above.add(method);
            List<String> below = List.of();
            for (String next : called.getOrDefault(method, Set.of())) {
                List<String> way = wayFrom(next, above);
                below = way.size() > below.size() ? way : below;
            }
            above.remove(above.size() - 1);
            List<String> whole = new ArrayList<>(List.of(method));
            whole.addAll(below);
            longest.put(method, whole);
        }
        return longest.get(method);
    }
}
