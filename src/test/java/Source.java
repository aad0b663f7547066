import com.sun.source.tree.CompilationUnitTree;
import com.sun.source.util.JavacTask;
import com.sun.source.util.Trees;
import java.io.IOException;
import java.nio.file.Path;
import java.util.List;
import javax.tools.JavaCompiler;
import javax.tools.StandardJavaFileManager;
import javax.tools.ToolProvider;

/** The program's file as the compiler reads it, with its types, for the tests that look at how it is written. */
record Source(CompilationUnitTree unit, Trees trees) {
    static final Path FILE = Path.of("src/main/java/Millrace.java");

    static Source read() throws IOException {
        JavaCompiler compiler = ToolProvider.getSystemJavaCompiler();
        try (StandardJavaFileManager files = compiler.getStandardFileManager(null, null, null)) {
            JavacTask task = (JavacTask) compiler.getTask(null, files, null, List.of("-proc:none"), null,
                files.getJavaFileObjects(FILE));
            CompilationUnitTree unit = task.parse().iterator().next();
            task.analyze();
            return new Source(unit, Trees.instance(task));
        }
    }

    long line(long position) {
        return unit.getLineMap().getLineNumber(position);
    }
}
