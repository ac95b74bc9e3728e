import java.util.ArrayList;
import java.util.HashMap;
import java.util.HashSet;
import java.util.LinkedHashMap;
import java.util.LinkedHashSet;
import java.util.List;
import java.util.Map;
import java.util.Set;
import javax.lang.model.element.ElementKind;
import javax.lang.model.element.ExecutableElement;
import javax.lang.model.element.TypeElement;
import javax.lang.model.type.DeclaredType;
import javax.lang.model.type.TypeMirror;

/** Which methods of the program call which, and the longest chain of calls that stand open at once. */
final class CallGraph {
    private final Map<ExecutableElement, Set<ExecutableElement>> called = new LinkedHashMap<>();
    private final List<TypeElement> classes = new ArrayList<>();
    private final Map<ExecutableElement, List<String>> chains = new HashMap<>();
    private final Set<ExecutableElement> open = new HashSet<>();

    void addClass(TypeElement type) {
        classes.add(type);
    }

    void addMethod(ExecutableElement method) {
        called.computeIfAbsent(method, m -> new LinkedHashSet<>());
    }

    void addCall(ExecutableElement from, ExecutableElement to) {
        addMethod(from);
        called.get(from).add(to);
    }

    int methods() {
        return called.size();
    }

    /** The names of the methods on the longest chain; a method that is open already is recursion and not counted. */
    List<String> longest() {
        List<String> longest = List.of();
        for (ExecutableElement method : List.copyOf(called.keySet())) {
            List<String> chain = from(method);
            if (chain.size() > longest.size()) longest = chain;
        }
        return longest;
    }

    private List<String> from(ExecutableElement method) {
        if (chains.containsKey(method)) return chains.get(method);
        if (!open.add(method)) return List.of();
        List<String> longest = List.of();
        for (ExecutableElement next : nextOf(method)) {
            List<String> chain = from(next);
            if (chain.size() > longest.size()) longest = chain;
        }
        open.remove(method);
        List<String> chain = new ArrayList<>(List.of(method.getEnclosingElement().getSimpleName() + "." + method.getSimpleName()));
        chain.addAll(longest);
        chains.put(method, chain);
        return chain;
    }

    /** What a method calls, and what stands for it in classes below its own. */
    private Set<ExecutableElement> nextOf(ExecutableElement method) {
        Set<ExecutableElement> next = new LinkedHashSet<>();
        for (ExecutableElement to : called.getOrDefault(method, Set.of())) {
            next.add(to);
            for (TypeElement type : classes) {
                if (isBelow(type, (TypeElement) to.getEnclosingElement())) next.addAll(named(type, to));
            }
        }
        return next;
    }

    private static List<ExecutableElement> named(TypeElement type, ExecutableElement like) {
        List<ExecutableElement> found = new ArrayList<>();
        type.getEnclosedElements().forEach(e -> {
            boolean same = e.getKind() == ElementKind.METHOD && e.getSimpleName().equals(like.getSimpleName());
            if (same) found.add((ExecutableElement) e);
        });
        return found;
    }

    private static boolean isBelow(TypeElement type, TypeElement above) {
        List<TypeMirror> parents = new ArrayList<>(type.getInterfaces());
        parents.add(type.getSuperclass());
        for (TypeMirror parent : parents) {
            if (!(parent instanceof DeclaredType d)) continue;
            TypeElement element = (TypeElement) d.asElement();
            if (element.equals(above) || isBelow(element, above)) return true;
        }
        return false;
    }
}
