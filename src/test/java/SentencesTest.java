import java.io.IOException;
import java.nio.file.Files;
import java.nio.file.Path;
import java.util.List;
import java.util.regex.Matcher;
import java.util.regex.Pattern;
import java.util.stream.Collectors;
import java.util.stream.Stream;

/** All words that the promises share must be named by the test of some promise. */
public final class SentencesTest {
  private static final Path TESTS = Path.of("src/test/java");
  private static final Pattern NAMED = Pattern.compile("says\\(\"((?:[^\"\\\\]|\\\\.)*)\"");

  public static void main(String[] args) throws IOException {
    Check check = new Check();
    List<Path> tests = tests();
    check.due("tests of promises", 24, tests.size());
    Words terms = new Words(Document.terms());
    for (Path test : tests) {
      Matcher named = NAMED.matcher(Files.readString(test));
      while (named.find()) {
        terms.name(named.group(1).replace("\\\"", "\""));
      }
    }
    String left = terms.left();
    check.due("words that no test names: '" + left + "'", 0, left.length());
    check.end();
  }

  private static List<Path> tests() throws IOException {
    try (Stream<Path> files = Files.list(TESTS)) {
      return files.filter(file -> file.getFileName().toString().matches("Promise\\d\\d.*Test.java"))
          .sorted().collect(Collectors.toList());
    }
  }
}
