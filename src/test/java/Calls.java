import java.util.ArrayList;
import java.util.List;
import java.util.Map;
import java.util.Set;
import java.util.TreeMap;
import java.util.TreeSet;
import javax.lang.model.element.ExecutableElement;

/** Who calls whom among the methods of the file. */
final class Calls {
    private static final int DEEPEST = 8;
    /** Each way back to itself goes through one of these, which carry their depth and refuse to go deeper. */
    private static final Map<String, String> GUARDS = Map.of("Law.readBracket", "open", "Law.readName", "open",
            "Plan.readAgain", "open", "Plan.runSteps", "open", "SkipSearch.searchFrom", "index");

    private final Map<String, Set<String>> called = new TreeMap<>();
    private final Map<String, String> parameters = new TreeMap<>();

    private static String nameOf(ExecutableElement method) {
        return method.getEnclosingElement().getSimpleName() + "." + method.getSimpleName();
    }

    void add(ExecutableElement method) {
        called.computeIfAbsent(nameOf(method), k -> new TreeSet<>());
        parameters.put(nameOf(method), method.getParameters().toString());
    }

    void add(ExecutableElement from, ExecutableElement to) {
        called.computeIfAbsent(nameOf(from), k -> new TreeSet<>()).add(nameOf(to));
    }

    void hold() {
        for (String method : called.keySet()) {
            List<String> longest = longestFrom(method, new ArrayList<>());
            Checks.holds("rule 11: at most eight deep: " + longest, longest.size() <= DEEPEST);
            Checks.holds("rule 8: without its guards " + method + " does not come back to itself",
                    !comesBack(method, method, new TreeSet<>()));
        }
        for (Map.Entry<String, String> guard : GUARDS.entrySet()) {
            String told = "," + parameters.getOrDefault(guard.getKey(), "") + ",";
            Checks.holds("rule 8: " + guard.getKey() + " carries its depth, " + guard.getValue(),
                    told.contains("," + guard.getValue() + ","));
        }
    }

    /** The longest chain of calls in which no method stands twice. */
    private List<String> longestFrom(String method, List<String> open) {
        open.add(method);
        List<String> longest = List.copyOf(open);
        for (String next : called.getOrDefault(method, Set.of())) {
            if (!open.contains(next)) {
                List<String> chain = longestFrom(next, open);
                longest = chain.size() > longest.size() ? chain : longest;
            }
        }
        open.remove(open.size() - 1);
        return longest;
    }

    private boolean comesBack(String method, String to, Set<String> seen) {
        if (GUARDS.containsKey(method) || !seen.add(method)) {
            return false;
        }
        for (String next : called.getOrDefault(method, Set.of())) {
            if (next.equals(to) || comesBack(next, to, seen)) {
                return true;
            }
        }
        return false;
    }
}
