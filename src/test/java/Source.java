import java.io.StringWriter;
import java.net.URI;
import java.nio.file.Path;
import java.util.List;
import javax.tools.JavaCompiler;
import javax.tools.SimpleJavaFileObject;
import javax.tools.ToolProvider;

/** A class as a text that stands in no file, so that tests can compile it. */
final class Source extends SimpleJavaFileObject {
  static final JavaCompiler COMPILER = ToolProvider.getSystemJavaCompiler();

  private final String text;

  Source(String name, String text) {
    super(URI.create("string:///" + name + ".java"), Kind.SOURCE);
    this.text = text;
  }

  @Override
  public CharSequence getCharContent(boolean ignoreEncodingErrors) {
    return text;
  }

  /** Whether it could be compiled into that place. */
  boolean compiledTo(Path out) {
    List<String> options = List.of("-d", out.toString());
    return COMPILER.getTask(new StringWriter(), null, null, options, null, List.of(this)).call();
  }
}
