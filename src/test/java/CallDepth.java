import com.sun.source.tree.ClassTree;
import com.sun.source.tree.CompilationUnitTree;
import com.sun.source.tree.MethodInvocationTree;
import com.sun.source.tree.MethodTree;
import com.sun.source.tree.NewClassTree;
import com.sun.source.util.TreePathScanner;
import java.util.ArrayList;
import java.util.HashMap;
import java.util.HashSet;
import java.util.List;
import java.util.Map;
import java.util.Set;
import java.util.TreeSet;
import javax.lang.model.element.Element;

/** Which method of the source calls which; a call of an abstract one may be one of each that bears its name. */
abstract class CallDepth extends TreePathScanner<Void, Void> {
    private static final int FAR = 1000;

    private final Source source;
    private final Map<String, Set<String>> calls = new HashMap<>();
    private final Map<String, Integer> depths = new HashMap<>();
    private String inside = "";

    private CallDepth(Source source) {
        this.source = source;
    }

    static String nameOf(Element method) {
        return method == null ? "what javac does not know" : method.getEnclosingElement() + "." + method.getSimpleName();
    }

    static boolean isOwn(Element method) {
        return nameOf(method).startsWith("LightcurveHouse.");
    }

    abstract void judge(Set<String> methods);

    @Override public Void visitCompilationUnit(CompilationUnitTree tree, Void none) {
        super.visitCompilationUnit(tree, none);
        judge(new TreeSet<>(calls.keySet()));
        return null;
    }

    @Override public Void visitClass(ClassTree tree, Void none) {
        String around = inside;
        inside = source.element(getCurrentPath()) + ".<init>";
        super.visitClass(tree, none);
        inside = around;
        return null;
    }

    @Override public Void visitMethod(MethodTree tree, Void none) {
        String around = inside;
        inside = nameOf(source.element(getCurrentPath()));
        calls.computeIfAbsent(inside, any -> new HashSet<>());
        super.visitMethod(tree, none);
        inside = around;
        return null;
    }

    @Override public Void visitMethodInvocation(MethodInvocationTree tree, Void none) {
        add(nameOf(source.element(getCurrentPath())));
        return super.visitMethodInvocation(tree, none);
    }

    @Override public Void visitNewClass(NewClassTree tree, Void none) {
        add(nameOf(source.element(getCurrentPath())));
        return super.visitNewClass(tree, none);
    }

    private void add(String called) {
        calls.computeIfAbsent(inside, any -> new HashSet<>()).add(called);
    }

    /** How many methods stand open at once at most, the library's own ones as one; FAR for one that can call itself. */
    int depth(String method) {
        Integer known = depths.putIfAbsent(method, FAR);
        if (known != null) {
            return known;
        }
        int most = 0;
        for (String called : mayBe(method)) {
            most = Math.max(most, depth(called));
        }
        for (String called : calls.getOrDefault(method, Set.of())) {
            most = Math.max(most, depth(called));
        }
        depths.put(method, most >= FAR ? FAR : most + 1);
        return depths.get(method);
    }

    /** By their simple names, which may be more than are meant, but none fewer. */
    private List<String> mayBe(String method) {
        List<String> all = new ArrayList<>();
        if (method.startsWith("LightcurveHouse.Look.") && !method.endsWith("<init>")) {
            String simple = method.substring(method.lastIndexOf('.'));
            for (String other : calls.keySet()) {
                if (!other.equals(method) && other.endsWith(simple)) {
                    all.add(other);
                }
            }
        }
        return all;
    }

    static final class Recursion extends CallDepth {
        Recursion(Source source) {
            super(source);
        }

        @Override void judge(Set<String> methods) {
            for (String method : methods) {
                if (depth(method) >= FAR) {
                    Check.wrong(method + " can call itself");
                }
            }
        }
    }

    static final class Depth extends CallDepth {
        private final int most;

        Depth(Source source, int most) {
            super(source);
            this.most = most;
        }

        @Override void judge(Set<String> methods) {
            Check.due("the source has methods", methods.size() > 32, true);
            for (String method : methods) {
                if (depth(method) > most) {
                    Check.wrong(method + " goes " + depth(method) + " deep");
                }
            }
        }
    }
}
