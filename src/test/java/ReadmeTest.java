import com.sun.source.util.JavacTask;
import java.io.IOException;
import java.net.URI;
import java.nio.file.Files;
import java.nio.file.Path;
import java.util.List;
import java.util.Set;
import java.util.TreeSet;
import java.util.regex.Matcher;
import java.util.regex.Pattern;
import javax.tools.DiagnosticCollector;
import javax.tools.JavaFileObject;
import javax.tools.SimpleJavaFileObject;
import javax.tools.ToolProvider;

/** README.md: its run of calls answers what is told there, is Java as it stands, and the command of the tests is named. */
public final class ReadmeTest {
    private static final Due due = new Due();
    private static final Pattern CALL = Pattern.compile("office\\.(\\w+\\(.*\\)); +// (true|false|-?\\d+)(:.*)?");
    private static final List<String> PARTS = List.of("kind", "pattern", "insert", "put", "copy", "undo", "region", "turn", "paste",
        "rule", "becomes", "grow", "foretold", "fits", "kept", "floor", "place", "stock", "fill", "fills", "cheapest", "forced",
        "shown", "about");

    public static void main(String[] args) throws IOException {
        String text = Files.readString(Path.of("README.md"));
        int open = text.indexOf("```java\n") + "```java\n".length();
        String run = text.substring(open, text.indexOf("```", open));
        answers(run);
        compiles(run);
        due.yes("README.md tells the command of the tests", text.contains("\n    .ci/run\n"));
        due.end("ReadmeTest");
    }

    private static void answers(String run) {
        TileOffice office = new TileOffice();
        Set<String> used = new TreeSet<>();
        for (String line : run.split("\n")) {
            boolean isCall = line.startsWith("office");
            Matcher told = CALL.matcher(line);
            due.is("a call with its answer: " + line, told.matches(), isCall);
            if (told.matches()) {
                String call = told.group(1);
                used.add(call.substring(0, call.indexOf('(')));
                due.is(call, Calls.answer(office, call), answer(told.group(2)));
            }
        }
        for (String part : PARTS) {
            due.yes("README.md calls " + part, used.contains(part));
        }
    }

    private static long answer(String told) {
        return told.equals("true") ? 1 : told.equals("false") ? 0 : Long.parseLong(told);
    }

    // The text is read and looked at only, so that no class file is written.
    private static void compiles(String run) throws IOException {
        DiagnosticCollector<JavaFileObject> said = new DiagnosticCollector<>();
        List<String> options = List.of("-proc:none", "-classpath", System.getProperty("java.class.path"));
        JavacTask task = (JavacTask) ToolProvider.getSystemJavaCompiler()
            .getTask(null, null, said, options, null, List.of(new Example(run)));
        task.analyze();
        due.yes("the run compiles: " + said.getDiagnostics(), said.getDiagnostics().isEmpty());
    }

    /** The run of README.md as the body of a main method. */
    private static final class Example extends SimpleJavaFileObject {
        private final String run;

        Example(String itsRun) {
            super(URI.create("string:///Example.java"), JavaFileObject.Kind.SOURCE);
            run = itsRun;
        }

        @Override
        public CharSequence getCharContent(boolean ignoreEncodingErrors) {
            return "final class Example {\n    public static void main(String[] args) {\n" + run + "    }\n}\n";
        }
    }
}
