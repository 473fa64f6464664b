import java.lang.reflect.Constructor;
import java.lang.reflect.InvocationTargetException;
import java.lang.reflect.Method;
import java.net.URL;
import java.net.URLClassLoader;
import java.nio.file.Files;
import java.nio.file.Path;
import java.util.Set;

/**
 * Breaks the document's sentences one at a time in a copy of the class, as src/test/broken.txt says:
 * the test of the promise must notice it under the very words. A test that cannot fail is none.
 */
public final class BrokenSentencesTest {
  private static final Path CLASS = Path.of("src/main/java/LentQuill.java");
  private static final Path CHANGES = Path.of("src/test/broken.txt");
  private static final Check CHECK = new Check();

  public static void main(String[] args) throws Exception {
    String source = oneLine(Files.readString(CLASS).replaceAll("//[^\n]*", ""));
    Path tests = Path.of(
        BrokenSentencesTest.class.getProtectionDomain().getCodeSource().getLocation().toURI());
    Path out = Files.createDirectories(tests.resolve("broken"));
    URL[] places = {out.toUri().toURL(), tests.toUri().toURL()};
    String test = "";
    String words = "";
    for (String line : Files.readAllLines(CHANGES)) {
      if (line.startsWith("    ")) {
        String text = changed(source, line);
        String told = test + ", \"" + words + "\": " + line.trim();
        if (stands(text, told) && compiles(text, out, told)) {
          noticed(test, words, places, told);
        }
      } else if (line.startsWith("  ")) {
        words = line.trim();
      } else if (!line.startsWith("#")) {
        test = line.trim();
      }
    }
    CHECK.end();
  }

  private static String oneLine(String text) {
    return text.replaceAll("\\s+", " ").trim();
  }

  /** The class with one change, which may be of several places; null if one of them is not there. */
  private static String changed(String source, String line) {
    String text = source;
    for (String part : line.split("@")) {
      String[] sides = part.split("==>", 2);
      String was = oneLine(sides[0]);
      int place = text.indexOf(was);
      if (sides.length < 2 || place < 0 || text.indexOf(was, place + 1) >= 0) {
        return null;
      }
      text = text.substring(0, place) + oneLine(sides[1]) + text.substring(place + was.length());
    }
    return text;
  }

  private static boolean stands(String text, String told) {
    return CHECK.due("stands just once in the class: " + told, 1, text == null ? 0 : 1);
  }

  private static boolean compiles(String text, Path out, String told) {
    boolean done = new Source("LentQuill", text).compiledTo(out);
    return CHECK.due("compiles: " + told, 1, done ? 1 : 0);
  }

  private static void noticed(String test, String words, URL[] places, String told)
      throws Exception {
    boolean found = broken(test, places).contains(words);
    CHECK.due("is noticed: " + told, 1, found ? 1 : 0);
  }

  /** The words that the test of a promise finds broken with the classes of these places. */
  private static Set<?> broken(String test, URL[] places) throws Exception {
    try (URLClassLoader loader =
        new URLClassLoader(places, ClassLoader.getPlatformClassLoader())) {
      Class<?> promises = loader.loadClass("Promise");
      Constructor<?> make = promises.getDeclaredConstructor(int.class);
      Method hold = loader.loadClass(test).getDeclaredMethod("hold", promises);
      Method broken = promises.getDeclaredMethod("broken");
      make.setAccessible(true);
      hold.setAccessible(true);
      broken.setAccessible(true);
      Object promise = make.newInstance(Integer.parseInt(test.substring(7, 9)));
      try {
        hold.invoke(null, promise);
      } catch (InvocationTargetException e) {
        // What was noticed ahead of it counts: a broken class may refuse a step of a later test.
      }
      return (Set<?>) broken.invoke(promise);
    }
  }
}
