import com.sun.source.tree.CompilationUnitTree;
import com.sun.source.tree.Tree;
import com.sun.source.util.JavacTask;
import com.sun.source.util.TreePath;
import com.sun.source.util.Trees;
import java.io.IOException;
import java.nio.file.Path;
import java.util.List;
import javax.lang.model.element.Element;
import javax.lang.model.element.TypeElement;
import javax.lang.model.type.TypeKind;
import javax.lang.model.type.TypeMirror;
import javax.lang.model.util.Elements;
import javax.lang.model.util.Types;
import javax.tools.JavaCompiler;
import javax.tools.StandardJavaFileManager;
import javax.tools.ToolProvider;

/** A Java file as the compiler sees it: its tree, and what each name in it stands for. */
final class Source {
    final CompilationUnitTree unit;
    final Trees trees;
    final Types types;
    final Elements elements;

    Source(Path file) throws IOException {
        JavaCompiler javac = ToolProvider.getSystemJavaCompiler();
        StandardJavaFileManager files = javac.getStandardFileManager(null, null, null);
        JavacTask task = (JavacTask) javac.getTask(null, files, null, List.of("-proc:none"), null,
            files.getJavaFileObjects(file));
        unit = task.parse().iterator().next();
        task.analyze();
        trees = Trees.instance(task);
        types = task.getTypes();
        elements = task.getElements();
    }

    long lineOf(Tree tree) {
        return unit.getLineMap().getLineNumber(trees.getSourcePositions().getStartPosition(unit, tree));
    }

    long lastLineOf(Tree tree) {
        return unit.getLineMap().getLineNumber(trees.getSourcePositions().getEndPosition(unit, tree) - 1);
    }

    /** What a name or a call at the end of a path stands for; null: nothing that has a name. */
    Element elementAt(TreePath path) {
        return trees.getElement(path);
    }

    TypeMirror typeOf(TreePath around, Tree tree) {
        return trees.getTypeMirror(new TreePath(around, tree));
    }

    boolean isA(TypeMirror type, String qualifiedName) {
        return type != null && type.getKind() == TypeKind.DECLARED && qualifiedName.equals(nameOf(type));
    }

    boolean isReal(TypeMirror type) {
        return type != null && (type.getKind() == TypeKind.DOUBLE || type.getKind() == TypeKind.FLOAT);
    }

    /** The qualified name of a class, without what stands in angle brackets. */
    String nameOf(TypeMirror type) {
        return ((TypeElement) types.asElement(type)).getQualifiedName().toString();
    }

    /** Whether something has been written in this file. */
    boolean isOwn(Element element) {
        return element != null && trees.getPath(element) != null
            && trees.getPath(element).getCompilationUnit() == unit;
    }
}
