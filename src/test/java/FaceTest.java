import java.lang.reflect.Constructor;
import java.lang.reflect.Field;
import java.lang.reflect.Method;
import java.lang.reflect.Modifier;
import java.nio.file.Files;
import java.nio.file.Path;
import java.util.Set;
import java.util.TreeSet;
import java.util.regex.Matcher;
import java.util.regex.Pattern;

/** The class shows the document's face and nothing more, and keeps to the words LANGUAGE.md leaves. */
public final class FaceTest {
  private static final String[] METHODS = {
    "int letter(int)", "int blank()", "int fault()", "int sea()", "int place(int,int)", "int wind(int)",
    "int island(int,int,int)", "int about(int,int)", "int as(int,int)", "int anchor(int,boolean)",
    "int wed(int,int)", "int axe(int,int)", "int day()", "int meet(int,int)", "int anchors(int,int,int,int)",
    "int stable(int)", "int parting(int,int)", "int shell(int,int,int,boolean)", "int forget()",
    "int guess(int,int)", "int seasons(int,int,int)", "int image()", "int restore()", "int count(int)",
    "long digest()",
  };
  private static int wrong = 0;

  private static void due(String what, Object got, Object want) {
    if (!want.equals(got)) {
      wrong++;
      System.out.println(what + " is " + got + ", due is " + want);
    }
  }

  public static void main(String[] args) throws Exception {
    due("the class is public and final", Modifier.toString(IslandsWed.class.getModifiers()), "public final");
    constants();
    methods();
    source();
    System.out.println(wrong == 0 ? "the face is as due" : wrong + " things are not as due");
    if (wrong != 0) System.exit(1);
  }

  private static void constants() throws Exception {
    Set<String> shown = new TreeSet<>();
    for (Field field : IslandsWed.class.getDeclaredFields()) {
      boolean isPrivate = Modifier.isPrivate(field.getModifiers());
      if (!isPrivate) shown.add(Modifier.toString(field.getModifiers()) + " " + field.getType() + " " + field.getName() + " " + field.get(null));
      if (Modifier.isStatic(field.getModifiers())) due(field.getName() + " is final", Modifier.isFinal(field.getModifiers()), true);
    }
    due("constants", shown, new TreeSet<>(Set.of(
        "public static final int NONE -1", "public static final int UNKNOWN -101",
        "public static final int OUTSIDE -102", "public static final int STATE -103",
        "public static final int FULL -104")));
  }

  private static void methods() {
    Set<String> shown = new TreeSet<>();
    Set<String> publicNames = new TreeSet<>();
    for (Method method : IslandsWed.class.getDeclaredMethods()) {
      if (Modifier.isPrivate(method.getModifiers())) continue;
      due(method + " is public", Modifier.toString(method.getModifiers()), "public");
      publicNames.add(method.getName());
      shown.add(signature(method));
    }
    due("methods", shown, new TreeSet<>(Set.of(METHODS)));
    for (Method method : IslandsWed.class.getDeclaredMethods()) {
      if (Modifier.isPrivate(method.getModifiers())) due(method.getName() + " is a public name", publicNames.contains(method.getName()), false);
    }
    Constructor<?>[] made = IslandsWed.class.getDeclaredConstructors();
    due("constructors", made.length, 1);
    due("the constructor", made[0].toString(), "public IslandsWed()");
    for (Class<?> inside : IslandsWed.class.getDeclaredClasses()) {
      due(inside.getSimpleName() + " is static", Modifier.isStatic(inside.getModifiers()), true);
      for (Method method : inside.getDeclaredMethods()) due(inside.getSimpleName() + "." + method.getName() + " is a public name", publicNames.contains(method.getName()), false);
    }
  }

  private static String signature(Method method) {
    StringBuilder text = new StringBuilder(method.getReturnType() + " " + method.getName() + "(");
    for (int i = 0; i < method.getParameterTypes().length; i++) text.append(i == 0 ? "" : ",").append(method.getParameterTypes()[i]);
    return text.append(")").toString();
  }

  private static void source() throws Exception {
    Path file = Path.of(System.getProperty("project.root", "."), "src", "main", "java", "IslandsWed.java");
    String text = Files.readString(file);
    for (char c : text.toCharArray()) if (c > 126) due("a sign beyond 126", (int) c, 0);
    String code = text.replaceAll("(?s)/\\*.*?\\*/", " ").replaceAll("//[^\n]*", " ");
    Matcher word = Pattern.compile("\\b(throw|throws|try|catch|synchronized|assert|package|Exception|System\\.(?!arraycopy)|Math\\.\\w+Exact|Thread|Random)\\b|->|::").matcher(code);
    while (word.find()) due("forbidden", word.group(), "nothing");
    Matcher brought = Pattern.compile("(?m)^import\\s+(.*?);").matcher(code);
    while (brought.find()) due("import", brought.group(1), "java.util.Arrays");
  }
}
