import java.util.HashSet;
import java.util.LinkedHashMap;
import java.util.LinkedHashSet;
import java.util.Map;
import java.util.Set;

/** Which method calls which; a name stands for one method with its class and its parameters. */
final class CallGraph {
    private final Map<String, Set<String>> calls = new LinkedHashMap<>();

    void add(String caller, String called) {
        calls.computeIfAbsent(caller, name -> new LinkedHashSet<>()).add(called);
    }

    /** How many calls stand open at once at most, from any method on; -1 if a method can come to call itself. */
    int depth() {
        int deepest = 0;
        for (String name : calls.keySet()) {
            int depth = depthFrom(name, new HashSet<>());
            if (depth < 0) {
                return -1;
            }
            deepest = Math.max(deepest, depth);
        }
        return deepest;
    }

    private int depthFrom(String name, Set<String> open) {
        if (!open.add(name)) {
            return -1;
        }
        int deepest = 0;
        for (String called : calls.getOrDefault(name, Set.of())) {
            int depth = depthFrom(called, open);
            if (depth < 0) {
                return -1;
            }
            deepest = Math.max(deepest, depth);
        }
        open.remove(name);
        return deepest + 1;
    }
}
