import java.lang.management.ManagementFactory;
import java.lang.reflect.Field;
import java.lang.reflect.Method;
import java.lang.reflect.Modifier;
import java.nio.file.Files;
import java.nio.file.Path;
import java.util.ArrayList;
import java.util.Arrays;
import java.util.List;
import java.util.Set;
import java.util.TreeSet;
import java.util.regex.Matcher;
import java.util.regex.Pattern;

/** What can be checked of LANGUAGE.md without understanding the program, and that no call makes an object. */
public final class FormTest {
  private static final Set<String> LIBRARY = new TreeSet<>(Arrays.asList(
      "String", "Long", "Math", "System", "IllegalStateException", "IllegalArgumentException", "IndexOutOfBoundsException"));
  private static final String[] FORBIDDEN = {"\\b(import|package|try|catch|finally|synchronized|assert|native|volatile)\\b",
      "->", "::", "\\bstatic\\s*\\{", "Exact\\b", "\\b(equals|hashCode|toString|getClass)\\b", "\\bObject\\b",
      "System\\.(?!arraycopy)", "@\\w+", "\\bthrow\\b(?! new [A-Za-z]+\\(\"[^\"]*\"\\);)"};

  public static void main(String[] args) throws Exception {
    String source = Files.readString(Path.of("src/main/java/DebateHall.java"));
    String code = source.replaceAll("(?s)/\\*.*?\\*/", "").replaceAll("//[^\n]*", "");
    List<Class<?>> classes = new ArrayList<>(Arrays.asList(DebateHall.class.getDeclaredClasses()));
    classes.add(DebateHall.class);
    words(code, classes);
    methodLengths(code);
    Check.same("at most twelve classes", classes.size() <= 12, true);
    for (Class<?> type : classes) {
      fields(type);
      parameters(type);
      boolean hidden = Modifier.isStatic(type.getModifiers()) && !Modifier.isPublic(type.getModifiers())
          && !Modifier.isProtected(type.getModifiers());
      Check.same(type.getName() + " is the class, or static and hidden", type == DebateHall.class || hidden, true);
    }
    noObjects();
    Check.end("FormTest");
  }

  private static void words(String code, List<Class<?>> classes) {
    for (String forbidden : FORBIDDEN) {
      Matcher found = Pattern.compile(forbidden).matcher(code);
      Check.same("what is forbidden: " + forbidden, found.find() ? found.group() : "", "");
    }
    Set<String> known = new TreeSet<>(LIBRARY);
    for (Class<?> type : classes) {
      known.add(type.getSimpleName());
    }
    Matcher name = Pattern.compile("\\b[A-Z][a-z]\\w*").matcher(code.replaceAll("\"[^\"]*\"", ""));
    while (name.find()) {
      Check.same("the class " + name.group() + " is known", known.contains(name.group()), true);
    }
    for (int at = 0; at < code.length(); at++) {
      Check.same("the sign at " + at, code.charAt(at) < 128, true);
    }
  }

  /** Goes by the indentation: a method ends with the first brace that stands as far right as its head. */
  private static void methodLengths(String code) {
    Matcher method = Pattern.compile("(?ms)^(  |    )(?=\\w)([^\n=;]*\\([^\n=;]*\\{)\n(.*?)^\\1\\}").matcher(code);
    int methods = 0;
    while (method.find()) {
      methods++;
      Check.same(method.group(2) + " is short", method.group(3).split("\n").length <= 60, true);
    }
    Check.same("there are methods", methods > 100, true);
  }

  private static void fields(Class<?> type) {
    int own = 0;
    for (Field field : type.getDeclaredFields()) {
      if (!Modifier.isStatic(field.getModifiers())) {
        own++;
      } else {
        Check.same(field + " is final", Modifier.isFinal(field.getModifiers()), true);
        boolean fits = field.getType().isPrimitive() || field.getType() == String.class || type.isEnum();
        Check.same(field + " is a constant", fits, true);
      }
      Check.same(field + " is private", Modifier.isPrivate(field.getModifiers()) || field.isEnumConstant(), true);
    }
    Check.same(type.getName() + " has at most twenty fields", own <= 20, true);
  }

  private static void parameters(Class<?> type) {
    for (Method method : type.getDeclaredMethods()) {
      Check.same(method + " has at most seven parameters", method.getParameterCount() <= 7, true);
    }
  }

  /** The least of several measurements counts, as the machine itself may make an object of its own now and then. */
  private static void noObjects() {
    com.sun.management.ThreadMXBean threads = (com.sun.management.ThreadMXBean) ManagementFactory.getThreadMXBean();
    String text = "speaker a time 3600; speaker b time 3600; claim c by a; claim d by b; attack x from c on d;"
        + "attack y from d on c if not [in d or conceded d] and in x; support s from c for c; concede c; recall c;";
    int[] fed = Check.numbers(text);
    long least = Long.MAX_VALUE;
    for (int n = 0; n < 6; n++) {
      DebateHall hall = new DebateHall();
      long before = threads.getThreadAllocatedBytes(Thread.currentThread().getId());
      ask(hall, fed, text.length());
      least = Math.min(least, threads.getThreadAllocatedBytes(Thread.currentThread().getId()) - before);
      Check.same("items of the hall that was asked", hall.count(1), 5);
    }
    Check.same("bytes of the objects that the calls made", least, 0L);
  }

  /** Every call of the face, with texts that are right and wrong. */
  private static void ask(DebateHall hall, int[] fed, int length) {
    for (int n = 0; n < 3; n++) {
      for (int i = 0; i < fed.length; i += 5) {
        hall.feed(fed[i], fed[i + 1], fed[i + 2], fed[i + 3], fed[i + 4]);
      }
      hall.trim(length - (n == 2 ? 1 : 0));
      hall.tell();
      hall.errorAt();
    }
    for (int what = 0; what < 11; what++) {
      hall.count(what);
      hall.speaker(0, what % 7);
      hall.item(2, what);
    }
    for (int item = 0; item < 5; item++) {
      hall.why(item);
      hall.far(item);
      hall.defends(item, 0);
      hall.conceding(item, 0);
      hall.least(item);
      hall.frees(item);
    }
    hall.give(0, 1);
    hall.leader();
    hall.concede(0);
    hall.advise(0, 50);
    hall.sheet();
    hall.byteAt(0);
    hall.share();
    hall.digest();
  }
}
