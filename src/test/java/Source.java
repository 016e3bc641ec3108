import com.sun.source.tree.ClassTree;
import com.sun.source.tree.CompilationUnitTree;
import com.sun.source.tree.Tree;
import com.sun.source.util.JavacTask;
import com.sun.source.util.SourcePositions;
import com.sun.source.util.TreePath;
import com.sun.source.util.Trees;
import java.io.IOException;
import java.nio.file.Files;
import java.nio.file.Path;
import java.util.List;
import javax.lang.model.element.Element;
import javax.lang.model.type.TypeMirror;
import javax.tools.JavaCompiler;
import javax.tools.StandardJavaFileManager;
import javax.tools.ToolProvider;

/** The program's source as javac reads it, with what each name in it stands for. */
final class Source {
    static final Path PATH = Path.of("src", "main", "java", "LightcurveHouse.java");

    final CompilationUnitTree unit;
    private final Trees trees;

    private Source(CompilationUnitTree unit, Trees trees) {
        this.unit = unit;
        this.trees = trees;
    }

    static Source read() {
        JavaCompiler compiler = ToolProvider.getSystemJavaCompiler();
        StandardJavaFileManager files = compiler.getStandardFileManager(null, null, null);
        JavacTask task = (JavacTask) compiler.getTask(null, files, null, List.of("-proc:none"), null,
                files.getJavaFileObjects(PATH));
        try {
            CompilationUnitTree unit = task.parse().iterator().next();
            task.analyze();
            return new Source(unit, Trees.instance(task));
        } catch (IOException e) {
            throw new IllegalStateException("cannot read " + PATH);
        }
    }

    /** What is compiled: without comments. */
    static String text() {
        try {
            return Files.readString(PATH).replaceAll("(?s)/\\*.*?\\*/", "").replaceAll("//[^\n]*", "");
        } catch (IOException e) {
            throw new IllegalStateException("cannot read " + PATH);
        }
    }

    ClassTree house() {
        return (ClassTree) unit.getTypeDecls().get(0);
    }

    Element element(TreePath path) {
        return trees.getElement(path);
    }

    TypeMirror type(TreePath path) {
        return trees.getTypeMirror(path);
    }

    /** What javac adds by itself, such as a constructor that is not written, has no place in the file. */
    boolean isWritten(Tree tree) {
        return positions().getEndPosition(unit, tree) >= 0;
    }

    long line(Tree tree) {
        return unit.getLineMap().getLineNumber(positions().getStartPosition(unit, tree));
    }

    long lines(Tree tree) {
        return unit.getLineMap().getLineNumber(positions().getEndPosition(unit, tree)) - line(tree) + 1;
    }

    private SourcePositions positions() {
        return trees.getSourcePositions();
    }
}
