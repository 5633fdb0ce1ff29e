import com.sun.source.tree.CompilationUnitTree;
import com.sun.source.util.JavacTask;
import com.sun.source.util.Trees;
import java.io.IOException;
import java.net.URI;
import java.util.ArrayList;
import java.util.List;
import javax.tools.Diagnostic;
import javax.tools.DiagnosticCollector;
import javax.tools.JavaCompiler;
import javax.tools.JavaFileObject;
import javax.tools.SimpleJavaFileObject;
import javax.tools.ToolProvider;

/** A text of one Java file, read by the compiler; nothing is written. */
final class LanguageSource {
    private static final class Text extends SimpleJavaFileObject {
        private final String words;

        Text(String words) {
            super(URI.create("string:///EndVersions.java"), Kind.SOURCE);
            this.words = words;
        }

        @Override
        public CharSequence getCharContent(boolean ignoreErrors) {
            return words;
        }
    }

    final CompilationUnitTree unit;
    final Trees trees;
    private final List<String> errors = new ArrayList<>();

    LanguageSource(String words) throws IOException {
        JavaCompiler compiler = ToolProvider.getSystemJavaCompiler();
        DiagnosticCollector<JavaFileObject> told = new DiagnosticCollector<>();
        JavacTask task = (JavacTask) compiler.getTask(null, null, told, List.of("-proc:none"), null,
            List.of(new Text(words)));
        unit = task.parse().iterator().next();
        task.analyze();
        trees = Trees.instance(task);
        for (Diagnostic<?> one : told.getDiagnostics()) {
            if (one.getKind() == Diagnostic.Kind.ERROR) {
                errors.add("line " + one.getLineNumber() + ": " + one.getMessage(null));
            }
        }
    }

    /** What the compiler refuses; what the rules tell of a text with errors means nothing. */
    List<String> errors() {
        return errors;
    }

    long lineAt(long position) {
        return unit.getLineMap().getLineNumber(position);
    }
}
