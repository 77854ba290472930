import com.sun.source.tree.IdentifierTree;
import com.sun.source.tree.MemberSelectTree;
import com.sun.source.tree.MethodInvocationTree;
import com.sun.source.tree.MethodTree;
import com.sun.source.tree.NewClassTree;
import com.sun.source.util.TreePath;
import com.sun.source.util.TreePathScanner;
import java.io.IOException;
import java.nio.file.Path;
import java.util.ArrayList;
import java.util.HashMap;
import java.util.LinkedHashMap;
import java.util.LinkedHashSet;
import java.util.List;
import java.util.Map;
import java.util.Set;
import javax.lang.model.element.Element;
import javax.lang.model.element.ElementKind;
import javax.lang.model.element.ExecutableElement;
import javax.lang.model.element.Modifier;
import javax.lang.model.element.TypeElement;

/**
 * Rules of LANGUAGE.md on which method calls which: 8 (recursion), 11 (calls that are no recursion go at most eight
 * deep) and 12 (constructors). Its argument: the source's path.
 */
public final class CallsTest {
    private static final int MOST_DEEP = 8;

    private static Source source;
    private static final Map<Element, Set<Element>> calls = new LinkedHashMap<>();
    private static final Map<Element, Set<Element>> reached = new HashMap<>();
    private static final Map<Element, List<Element>> longest = new HashMap<>();
    private static int broken = 0;

    private static void check(boolean good, String what) {
        if (!good) {
            broken++;
            System.out.println("out of the rules: " + what);
        }
    }

    private static final class Calls extends TreePathScanner<Void, Void> {
        private Element now;

        @Override
        public Void visitMethod(MethodTree tree, Void none) {
            Element before = now;
            now = source.elementAt(getCurrentPath());
            calls.put(now, new LinkedHashSet<>());
            super.visitMethod(tree, none);
            now = before;
            return null;
        }

        @Override
        public Void visitMethodInvocation(MethodInvocationTree tree, Void none) {
            note(source.elementAt(getCurrentPath()));
            return super.visitMethodInvocation(tree, none);
        }

        @Override
        public Void visitNewClass(NewClassTree tree, Void none) {
            note(source.elementAt(getCurrentPath()));
            return super.visitNewClass(tree, none);
        }

        private void note(Element called) {
            if (now == null || !source.isOwn(called)) {
                return;
            }
            calls.get(now).add(called);
            if (now.getKind() == ElementKind.CONSTRUCTOR && called.getKind() == ElementKind.METHOD) {
                Set<Modifier> fixed = called.getModifiers();
                check(fixed.contains(Modifier.PRIVATE) || fixed.contains(Modifier.STATIC)
                    || fixed.contains(Modifier.FINAL)
                    || called.getEnclosingElement().getModifiers().contains(Modifier.FINAL),
                    "rule 12: a constructor calls what could be overridden: " + called);
            }
        }

        @Override
        public Void visitIdentifier(IdentifierTree tree, Void none) {
            TreePath around = getCurrentPath().getParentPath();
            boolean isHanded = tree.getName().contentEquals("this") && !(around.getLeaf() instanceof MemberSelectTree)
                && !(around.getLeaf() instanceof MethodInvocationTree
                    && ((MethodInvocationTree) around.getLeaf()).getMethodSelect() == tree);
            check(!isHanded || now == null || now.getKind() != ElementKind.CONSTRUCTOR,
                "rule 12: a constructor hands out what it makes, line " + source.lineOf(tree));
            return super.visitIdentifier(tree, none);
        }
    }

    /** A call of a method that others override may be a call of theirs. */
    private static void addOverriding() {
        for (Element one : calls.keySet()) {
            for (Element other : calls.keySet()) {
                if (one.getKind() == ElementKind.METHOD && other.getKind() == ElementKind.METHOD
                    && source.elements.overrides((ExecutableElement) one, (ExecutableElement) other,
                        (TypeElement) one.getEnclosingElement())) {
                    calls.get(other).add(one);
                }
            }
        }
    }

    private static Set<Element> reachedFrom(Element method) {
        Set<Element> known = reached.get(method);
        if (known == null) {
            known = new LinkedHashSet<>();
            List<Element> open = new ArrayList<>(List.of(method));
            while (!open.isEmpty()) {
                for (Element called : calls.getOrDefault(open.remove(open.size() - 1), Set.of())) {
                    if (known.add(called)) {
                        open.add(called);
                    }
                }
            }
            reached.put(method, known);
        }
        return known;
    }

    private static boolean isRecursive(Element method) {
        return reachedFrom(method).contains(method);
    }

    /** The longest chain of calls that begins with a method; those that call one another count once. */
    private static List<Element> chainFrom(Element method) {
        List<Element> known = longest.get(method);
        if (known == null) {
            known = new ArrayList<>();
            for (Element called : calls.getOrDefault(method, Set.of())) {
                if (!reachedFrom(called).contains(method) && called != method) {
                    List<Element> chain = chainFrom(called);
                    known = chain.size() > known.size() ? chain : known;
                }
            }
            known = new ArrayList<>(known);
            known.add(0, method);
            longest.put(method, known);
        }
        return known;
    }

    private static void checkRecursion() {
        for (Element method : calls.keySet()) {
            if (isRecursive(method)) {
                boolean isHidden = method.getModifiers().contains(Modifier.PRIVATE)
                    || method.getEnclosingElement().getKind() == ElementKind.INTERFACE
                    || !((TypeElement) method.getEnclosingElement()).getInterfaces().isEmpty();
                check(isHidden, "rule 8: calls itself, and is not private: " + method);
                check(!((ExecutableElement) method).getParameters().isEmpty(),
                    "rule 8: calls itself, and carries nothing that tells its depth: " + method);
            }
        }
    }

    public static void main(String[] args) throws IOException {
        source = new Source(Path.of(args[0]));
        new Calls().scan(source.unit, null);
        addOverriding();
        checkRecursion();
        List<Element> deepest = List.of();
        for (Element method : calls.keySet()) {
            List<Element> chain = chainFrom(method);
            deepest = chain.size() > deepest.size() ? chain : deepest;
        }
        check(deepest.size() <= MOST_DEEP, "rule 11: calls go deeper than eight: " + deepest);
        System.out.println("CallsTest: " + calls.size() + " methods, the deepest chain of calls " + deepest.size() + " "
            + deepest + ", " + broken + " out of the rules");
        if (broken != 0 || calls.isEmpty()) {
            System.exit(1);
        }
    }
}
