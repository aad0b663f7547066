import com.sun.source.tree.MethodInvocationTree;
import com.sun.source.tree.MethodTree;
import com.sun.source.tree.NewClassTree;
import com.sun.source.util.TreePathScanner;
import com.sun.source.util.Trees;
import java.io.IOException;
import java.util.ArrayList;
import java.util.LinkedHashMap;
import java.util.LinkedHashSet;
import java.util.List;
import java.util.Map;
import java.util.Set;
import javax.lang.model.element.Element;
import javax.lang.model.element.ExecutableElement;

/** Rules 8 and 11 of LANGUAGE.md: calls of the program go at most eight deep, and none comes back to itself. */
final class DepthTest {
    private static final int DEEPEST = 8;

    private static final Map<String, Set<String>> CALLED = new LinkedHashMap<>();

    public static void main(String[] args) throws IOException {
        Source source = Source.read();
        new CallReader(source.trees()).scan(source.unit(), null);
        Checks.isTrue("methods were found", CALLED.size() > 100);
        List<String> deepest = new ArrayList<>();
        for (String method : CALLED.keySet()) {
            List<String> chain = deepestFrom(method, new ArrayList<>());
            if (chain.size() > deepest.size()) {
                deepest = chain;
            }
        }
        Checks.isTrue("at most " + DEEPEST + " deep: " + deepest, deepest.size() <= DEEPEST);
        Checks.end("DepthTest");
    }

    /** The longest chain of calls from a method on; a recursion, of which the program has none, would be too long. */
    private static List<String> deepestFrom(String method, List<String> ahead) {
        List<String> here = new ArrayList<>(ahead);
        here.add(method);
        List<String> deepest = here;
        if (here.size() > DEEPEST + 1) {
            return deepest;
        }
        for (String next : CALLED.getOrDefault(method, Set.of())) {
            List<String> chain = deepestFrom(next, here);
            if (chain.size() > deepest.size()) {
                deepest = chain;
            }
        }
        return deepest;
    }

    /** Notes for each method and constructor which others of the program it calls. */
    private static final class CallReader extends TreePathScanner<Void, Void> {
        private final Trees trees;
        private String method = "";

        CallReader(Trees trees) {
            this.trees = trees;
        }

        @Override
        public Void visitMethod(MethodTree tree, Void unused) {
            method = nameOf(trees.getElement(getCurrentPath()));
            CALLED.put(method, new LinkedHashSet<>());
            super.visitMethod(tree, unused);
            method = "";
            return null;
        }

        @Override
        public Void visitMethodInvocation(MethodInvocationTree tree, Void unused) {
            note();
            return super.visitMethodInvocation(tree, unused);
        }

        @Override
        public Void visitNewClass(NewClassTree tree, Void unused) {
            note();
            return super.visitNewClass(tree, unused);
        }

        private void note() {
            String called = nameOf(trees.getElement(getCurrentPath()));
            if (called.startsWith("Millrace") && !method.isEmpty()) {
                CALLED.get(method).add(called);
            }
        }

        private static String nameOf(Element element) {
            return element instanceof ExecutableElement ? element.getEnclosingElement() + "." + element : "";
        }
    }
}
