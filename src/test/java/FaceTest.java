import java.lang.reflect.Constructor;
import java.lang.reflect.Field;
import java.lang.reflect.Method;
import java.lang.reflect.Modifier;
import java.util.Arrays;
import java.util.HashSet;
import java.util.Set;
import java.util.TreeSet;

/** The public face: just what the document names, with what it throws. */
public final class FaceTest {
  private static final String[] DUE = {
    "int feed(int, int, int, int, int) IllegalStateException", "int trim(int) IllegalArgumentException",
    "int tell()", "int errorAt()", "int count(int) IndexOutOfBoundsException",
    "int speaker(int, int) IndexOutOfBoundsException", "int item(int, int) IndexOutOfBoundsException",
    "int give(int, int) IndexOutOfBoundsException IllegalArgumentException",
    "int why(int) IndexOutOfBoundsException", "int far(int) IndexOutOfBoundsException",
    "boolean defends(int, int) IndexOutOfBoundsException", "int leader()",
    "int conceding(int, int) IndexOutOfBoundsException", "int concede(int) IndexOutOfBoundsException",
    "int advise(int, int) IndexOutOfBoundsException IllegalArgumentException",
    "int least(int) IndexOutOfBoundsException", "int frees(int) IndexOutOfBoundsException", "int sheet()",
    "int byteAt(int) IndexOutOfBoundsException", "double share()", "long digest()"};

  public static void main(String[] args) {
    Check.same("the class", Modifier.toString(DebateHall.class.getModifiers()), "public final");
    Set<String> names = new HashSet<>();
    Set<String> face = new TreeSet<>();
    for (Method method : DebateHall.class.getDeclaredMethods()) {
      if (Modifier.isPublic(method.getModifiers())) {
        names.add(method.getName());
        face.add(described(method));
      }
    }
    Check.same("the public methods", face, new TreeSet<>(Arrays.asList(DUE)));
    for (Method method : DebateHall.class.getDeclaredMethods()) {
      int modifiers = method.getModifiers();
      boolean hidden = Modifier.isPrivate(modifiers) && !names.contains(method.getName());
      Check.same(method.getName() + " is public, or private with a name of its own",
          Modifier.isPublic(modifiers) || hidden, true);
    }
    for (Field field : DebateHall.class.getDeclaredFields()) {
      Check.same(field.getName() + " is private", Modifier.isPrivate(field.getModifiers()), true);
    }
    for (Constructor<?> constructor : DebateHall.class.getDeclaredConstructors()) {
      Check.same("the constructor", constructor.toString(), "public DebateHall()");
    }
    Check.end("FaceTest");
  }

  private static String described(Method method) {
    StringBuilder text = new StringBuilder(method.getReturnType() + " " + method.getName() + "(");
    for (Class<?> type : method.getParameterTypes()) {
      text.append(text.charAt(text.length() - 1) == '(' ? "" : ", ").append(type);
    }
    text.append(")");
    for (Class<?> type : method.getExceptionTypes()) {
      text.append(" ").append(type.getSimpleName());
    }
    return text.toString();
  }
}
