import java.io.IOException;
import java.nio.file.Files;
import java.nio.file.Path;
import java.util.ArrayList;
import java.util.HashSet;
import java.util.List;
import java.util.Set;
import java.util.regex.Matcher;
import java.util.regex.Pattern;
import java.util.stream.Collectors;
import java.util.stream.Stream;

/**
 * All words that the promises share must be named by the test of some promise, and for all words that
 * a test names src/test/broken.txt must tell a way to break them.
 */
public final class SentencesTest {
  private static final Path TESTS = Path.of("src/test/java");
  private static final Path CHANGES = Path.of("src/test/broken.txt");
  private static final Pattern NAMED = Pattern.compile("says\\(\"((?:[^\"\\\\]|\\\\.)*)\"");
  private static final Check CHECK = new Check();

  public static void main(String[] args) throws IOException {
    List<String> tests = tests();
    CHECK.due("tests of promises", 24, tests.size());
    Words terms = new Words(Document.terms());
    Set<String> broken = broken();
    for (String test : tests) {
      for (String words : named(test)) {
        terms.name(words);
        boolean can = broken.contains(test + words);
        CHECK.due("a way to break, for " + test + ": " + words, 1, can ? 1 : 0);
      }
    }
    String left = terms.left();
    CHECK.due("words that no test names: '" + left + "'", 0, left.length());
    CHECK.end();
  }

  private static List<String> tests() throws IOException {
    try (Stream<Path> files = Files.list(TESTS)) {
      return files.map(file -> file.getFileName().toString().replace(".java", ""))
          .filter(name -> name.matches("Promise\\d\\d.*Test")).sorted().collect(Collectors.toList());
    }
  }

  private static List<String> named(String test) throws IOException {
    List<String> named = new ArrayList<>();
    Matcher matcher = NAMED.matcher(Files.readString(TESTS.resolve(test + ".java")));
    while (matcher.find()) {
      named.add(matcher.group(1).replace("\\\"", "\""));
    }
    return named;
  }

  /** Each test with words for which a change is told. */
  private static Set<String> broken() throws IOException {
    Set<String> broken = new HashSet<>();
    String test = "";
    String words = "";
    for (String line : Files.readAllLines(CHANGES)) {
      if (line.startsWith("    ")) {
        broken.add(test + words);
      } else if (line.startsWith("  ")) {
        words = line.trim();
      } else {
        test = line.trim();
      }
    }
    return broken;
  }
}
