import java.lang.reflect.Method;
import java.lang.reflect.Modifier;
import java.net.URL;
import java.net.URLClassLoader;
import java.nio.file.Files;
import java.nio.file.Path;
import java.util.ArrayList;
import java.util.List;
import java.util.regex.Matcher;
import java.util.regex.Pattern;

/** README.md names every call, and its rows of Java answer what is told behind them. */
public final class ReadmeTest {
  private static final Pattern BLOCK = Pattern.compile("```java\n(.*?)```", Pattern.DOTALL);
  private static final Pattern ROW =
      Pattern.compile("^(x\\.\\w+\\(.*\\)); *// ([A-Z]+|-?\\d+)\\b.*$", Pattern.MULTILINE);
  private static final Check CHECK = new Check();

  public static void main(String[] args) throws Exception {
    String readme = Files.readString(Path.of("README.md"));
    namesEveryCall(readme);
    rowsAnswer(blocks(readme));
    CHECK.end();
  }

  private static void namesEveryCall(String readme) {
    for (Method method : LentQuill.class.getDeclaredMethods()) {
      if (Modifier.isPublic(method.getModifiers())) {
        String call = "`" + method.getName() + "(";
        CHECK.due("README.md names " + call, 1, readme.contains(call) ? 1 : 0);
      }
    }
  }

  /** All blocks one behind the other: they go on with the same object. */
  private static String blocks(String readme) {
    StringBuilder text = new StringBuilder();
    Matcher block = BLOCK.matcher(readme);
    while (block.find()) {
      text.append(block.group(1));
    }
    return text.toString();
  }

  private static void rowsAnswer(String blocks) throws Exception {
    List<String> calls = new ArrayList<>();
    List<Long> wanted = new ArrayList<>();
    StringBuilder body = new StringBuilder();
    Matcher row = ROW.matcher(blocks);
    while (row.find()) {
      row.appendReplacement(body, "got[" + calls.size() + "] = " + row.group(1) + ";");
      calls.add(row.group(1));
      wanted.add(number(row.group(2)));
    }
    row.appendTail(body);
    CHECK.due("a comment behind a row that is not read: " + body, -1, body.indexOf("//"));
    long[] got = answers(body.toString(), calls.size());
    for (int i = 0; i < got.length; i++) {
      CHECK.due("README.md: " + calls.get(i), wanted.get(i), got[i]);
    }
  }

  private static long number(String told) throws Exception {
    boolean named = Character.isLetter(told.charAt(0));
    return named ? LentQuill.class.getField(told).getInt(null) : Long.parseLong(told);
  }

  private static long[] answers(String body, int rows) throws Exception {
    Path tests =
        Path.of(ReadmeTest.class.getProtectionDomain().getCodeSource().getLocation().toURI());
    Path out = Files.createDirectories(tests.resolve("readme"));
    boolean compiled = new Source("ReadmeRows", "public final class ReadmeRows {\n"
        + "public static long[] answers() {\nlong[] got = new long[" + rows + "];\n"
        + body + "return got;\n}\n}\n").compiledTo(out);
    if (!CHECK.due("the rows of README.md compile", 1, compiled ? 1 : 0)) {
      return new long[0];
    }
    try (URLClassLoader loader = new URLClassLoader(new URL[] {out.toUri().toURL()})) {
      return (long[]) loader.loadClass("ReadmeRows").getMethod("answers").invoke(null);
    }
  }
}
