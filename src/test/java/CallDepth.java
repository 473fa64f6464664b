import java.util.ArrayList;
import java.util.HashSet;
import java.util.LinkedHashMap;
import java.util.LinkedHashSet;
import java.util.List;
import java.util.Map;
import java.util.Set;
import javax.lang.model.element.ExecutableElement;
import javax.lang.model.element.TypeElement;
import javax.lang.model.util.Elements;

/** Which method of a class calls which, and how many stand open at once; one that calls itself is one. */
final class CallDepth {
  private final Map<ExecutableElement, Set<ExecutableElement>> called = new LinkedHashMap<>();
  private final Elements elements;

  CallDepth(Elements elements) {
    this.elements = elements;
  }

  void add(ExecutableElement method) {
    called.computeIfAbsent(method, key -> new LinkedHashSet<>());
  }

  /** What a field's initialiser calls stands in no method: from is null then, and it is left out. */
  void add(ExecutableElement from, ExecutableElement to) {
    if (from != null && !from.equals(to)) {
      add(from);
      called.get(from).add(to);
    }
  }

  int deepest() {
    int most = 0;
    for (ExecutableElement method : called.keySet()) {
      most = Math.max(most, deepFrom(method, new HashSet<>()));
    }
    return most;
  }

  private int deepFrom(ExecutableElement method, Set<ExecutableElement> open) {
    if (!open.add(method)) {
      return 0;
    }
    int most = 0;
    for (ExecutableElement next : nextOf(method)) {
      most = Math.max(most, deepFrom(next, open));
    }
    open.remove(method);
    return most + 1;
  }

  /** A call of a method may be one of a method that overrides it. */
  private Set<ExecutableElement> nextOf(ExecutableElement method) {
    Set<ExecutableElement> next = new LinkedHashSet<>(called.getOrDefault(method, Set.of()));
    for (ExecutableElement direct : List.copyOf(next)) {
      for (ExecutableElement other : called.keySet()) {
        boolean overrides =
            elements.overrides(other, direct, (TypeElement) other.getEnclosingElement());
        if (overrides && !other.equals(method)) {
          next.add(other);
        }
      }
    }
    return next;
  }

  /** Methods that come back to themselves through another one. */
  List<String> cycles() {
    List<String> found = new ArrayList<>();
    for (ExecutableElement method : called.keySet()) {
      Set<ExecutableElement> reached = new HashSet<>();
      reach(method, reached);
      if (reached.contains(method)) {
        found.add(method.toString());
      }
    }
    return found;
  }

  private void reach(ExecutableElement from, Set<ExecutableElement> reached) {
    for (ExecutableElement next : nextOf(from)) {
      if (reached.add(next)) {
        reach(next, reached);
      }
    }
  }
}
