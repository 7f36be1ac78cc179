import com.sun.source.tree.CompilationUnitTree;
import com.sun.source.util.JavacTask;
import com.sun.source.util.Trees;
import java.io.IOException;
import java.lang.management.ManagementFactory;
import java.util.List;
import javax.tools.JavaCompiler;
import javax.tools.StandardJavaFileManager;
import javax.tools.ToolProvider;

/** The rules of ../shared/LANGUAGE.md, as far as the compiler's tree of the program, or a run of it, can tell. */
final class LanguageTests {
    private static final com.sun.management.ThreadMXBean THREADS =
        (com.sun.management.ThreadMXBean) ManagementFactory.getThreadMXBean();
    /** All the calls of one object together; a small part of the 7.3 million elements for all that is in the room. */
    private static final long MOST_BYTES = 200_000;

    private LanguageTests() {
    }

    private static void rules() throws IOException {
        JavaCompiler compiler = ToolProvider.getSystemJavaCompiler();
        try (StandardJavaFileManager files = compiler.getStandardFileManager(null, null, null)) {
            JavacTask task = (JavacTask) compiler.getTask(null, files, null, List.of("-proc:none"), null,
                files.getJavaFileObjects(Source.PLACE));
            int units = 0;
            for (CompilationUnitTree unit : task.parse()) {
                units++;
                task.analyze();
                Rules rules = new Rules(Trees.instance(task), unit);
                rules.scan(unit, null);
                rules.end();
            }
            Check.same("files", units, 1);
        }
    }

    private static void signs() {
        for (String line : Source.lines()) {
            Check.holds("that '" + line + "' has signs 32 to 126", line.chars().allMatch(sign -> sign >= 32 && sign <= 126));
        }
    }

    private static long allocated() {
        return THREADS.getThreadAllocatedBytes(Thread.currentThread().getId());
    }

    /** As many provisions, instructions and notices as there can be, and then the dearest questions, up to the 512th call. */
    private static void oneObject() {
        Amendmark law = new Amendmark();
        law.act();
        int calls = 1;
        for (int p = 0; p < 20; p++) {
            law.terms(Amendmark.ON_DAY, p, 7, Amendmark.NONE);
            law.word(139, true);
            law.enact(p % 4 == 0 ? Amendmark.NONE : p - 1, p + 1, 0);
            calls += 3;
        }
        for (int p = 0; p < 20; p++) {
            law.word(120, true);
            law.instruct(Amendmark.INSERT, p, 0, 0);
            law.suspend(20 + p, 4000, 5000);
            calls += 3;
        }
        for (; calls < 512; calls++) {
            switch (calls % 3) {
                case 0:
                    law.look(calls, 0, 0);
                    break;
                case 1:
                    law.refers(0, 0);
                    break;
                default:
                    law.wordAnew(0, 0);
            }
        }
    }

    private static void room() {
        // The first ones load the classes.
        for (int k = 0; k < 3; k++) {
            oneObject();
        }
        long before = allocated();
        oneObject();
        long bytes = allocated() - before;
        Check.holds("that one object and its calls take " + bytes + " bytes, at most " + MOST_BYTES, bytes <= MOST_BYTES);
    }

    public static void main(String[] args) throws IOException {
        rules();
        signs();
        room();
        Check.end();
    }
}
