import java.lang.reflect.Constructor;
import java.lang.reflect.Field;
import java.lang.reflect.Method;
import java.lang.reflect.Modifier;
import java.nio.file.Files;
import java.nio.file.Path;
import java.util.Arrays;
import java.util.Set;
import java.util.TreeSet;

/** The face of the class, and what no text of it may hold; LanguageTest has the other rules. */
public final class FaceTest {
  private static final Check CHECK = new Check();

  private static final String[] METHODS = {
    "int letter(int)", "int blank()", "int fault()", "int town()", "int about(int,int)",
    "int as(int,int)", "int lend(int,int)", "int had(int,int)", "int sign(int,int)",
    "int deed(int,int)", "int free(int,int)", "int owes(int,int)", "int way(int,int,int)",
    "int find(int)", "int hear(int,boolean)", "int forget()", "int hands(int,int,int)",
    "int ask(int,int)", "int fairs(int,int,int)", "int image()", "int restore()",
    "int count(int)", "long digest()",
  };

  public static void main(String[] args) throws Exception {
    constants();
    visibleMembers();
    sourceText();
    CHECK.end();
  }

  private static void constants() {
    CHECK.due("NONE", -1, LentQuill.NONE);
    CHECK.due("UNKNOWN", -101, LentQuill.UNKNOWN);
    CHECK.due("OUTSIDE", -102, LentQuill.OUTSIDE);
    CHECK.due("STATE", -103, LentQuill.STATE);
    CHECK.due("FULL", -104, LentQuill.FULL);
  }

  private static void yes(String what, boolean is) {
    CHECK.due(what, 1, is ? 1 : 0);
  }

  private static String signature(Method method) {
    StringBuilder text = new StringBuilder(method.getReturnType() + " " + method.getName() + "(");
    for (Class<?> type : method.getParameterTypes()) {
      text.append(text.charAt(text.length() - 1) == '(' ? "" : ",").append(type);
    }
    return text.append(")").toString();
  }

  private static void visibleMembers() {
    yes("public and final", LentQuill.class.getModifiers() == (Modifier.PUBLIC | Modifier.FINAL));
    Set<String> methods = new TreeSet<>();
    Set<String> publicNames = new TreeSet<>();
    for (Method method : LentQuill.class.getDeclaredMethods()) {
      if (!Modifier.isPrivate(method.getModifiers())) {
        yes(method + " is public", Modifier.isPublic(method.getModifiers()));
        methods.add(signature(method));
        publicNames.add(method.getName());
      }
    }
    yes("the methods " + methods, methods.equals(new TreeSet<>(Arrays.asList(METHODS))));
    for (Class<?> type : withNested()) {
      for (Method method : type.getDeclaredMethods()) {
        boolean face = type == LentQuill.class && Modifier.isPublic(method.getModifiers());
        yes(method + " bears no public name", face || !publicNames.contains(method.getName()));
      }
    }
    Set<String> fields = new TreeSet<>();
    for (Field field : LentQuill.class.getDeclaredFields()) {
      if (!Modifier.isPrivate(field.getModifiers())) {
        fields.add(field.getName());
      }
    }
    yes("the constants " + fields,
        fields.equals(new TreeSet<>(Arrays.asList("NONE", "UNKNOWN", "OUTSIDE", "STATE", "FULL"))));
    Constructor<?>[] constructors = LentQuill.class.getDeclaredConstructors();
    yes("one public constructor without parameters", constructors.length == 1
        && constructors[0].getParameterCount() == 0
        && Modifier.isPublic(constructors[0].getModifiers()));
  }

  private static Class<?>[] withNested() {
    Class<?>[] nested = LentQuill.class.getDeclaredClasses();
    Class<?>[] all = Arrays.copyOf(nested, nested.length + 1);
    all[nested.length] = LentQuill.class;
    return all;
  }

  private static void sourceText() throws Exception {
    String source = Files.readString(Path.of("src/main/java/LentQuill.java"));
    String[] refused = {"package ", "@", "hashCode", "toString"};
    for (String word : refused) {
      yes("the source has no '" + word + "'", !source.contains(word));
    }
    yes("the source is plain ASCII", source.chars().allMatch(c -> c == '\n' || c >= 32 && c < 127));
  }
}
