import java.util.ArrayList;
import java.util.LinkedHashMap;
import java.util.LinkedHashSet;
import java.util.List;
import java.util.Map;
import java.util.Set;

/** Which method calls which. Methods that call one another in a ring are a recursion. */
final class CallGraph {
    private final Map<String, Set<String>> called = new LinkedHashMap<>();

    void add(String from, String to) {
        called.computeIfAbsent(from, k -> new LinkedHashSet<>()).add(to);
        called.computeIfAbsent(to, k -> new LinkedHashSet<>());
    }

    private Set<String> reachedFrom(String method) {
        Set<String> reached = new LinkedHashSet<>();
        List<String> open = new ArrayList<>(called.get(method));
        while (!open.isEmpty()) {
            String next = open.remove(open.size() - 1);
            if (reached.add(next)) open.addAll(called.get(next));
        }
        return reached;
    }

    List<String> recursive() {
        List<String> found = new ArrayList<>();
        for (String method : called.keySet()) if (reachedFrom(method).contains(method)) found.add(method);
        return found;
    }

    /**
     * The ways on which more than so many calls stand open, each method once: a recursion counts as
     * deep as its methods are many, which is no less than any way of counting it.
     */
    List<String> waysDeeperThan(int most) {
        List<String> found = new ArrayList<>();
        for (String method : called.keySet()) follow(method, new LinkedHashSet<>(), most, found);
        return found;
    }

    private void follow(String method, Set<String> way, int most, List<String> found) {
        if (!way.add(method)) return;
        if (way.size() > most) found.add(String.join(" - ", way));
        else for (String next : called.get(method)) follow(next, way, most, found);
        way.remove(method);
    }
}
