import java.io.IOException;
import java.lang.reflect.Method;
import java.lang.reflect.Modifier;
import java.net.URL;
import java.net.URLClassLoader;
import java.nio.file.Files;
import java.nio.file.Path;
import java.util.ArrayList;
import java.util.Comparator;
import java.util.List;
import java.util.TreeMap;
import java.util.TreeSet;
import java.util.regex.Matcher;
import java.util.regex.Pattern;
import java.util.stream.Stream;
import javax.tools.ToolProvider;

/** What README.md says is so: its example is run, its tables are held against the class and the document. */
public final class ReadmeTest {
  private static final Path ROOT = Path.of(System.getProperty("project.root", "."));
  private static final Pattern REFUSAL = Pattern.compile("\\b(UNKNOWN|OUTSIDE|STATE|FULL)\\b");
  private static int wrong = 0;

  private static void due(String what, Object got, Object want) {
    if (!want.equals(got)) {
      wrong++;
      System.out.println(what + ": README.md says " + got + ", due is " + want);
    }
  }

  public static void main(String[] args) throws Exception {
    String text = Files.readString(ROOT.resolve("README.md"));
    int rows = example(text);
    refusals(text);
    calls(text);
    tests(text);
    System.out.println(wrong == 0 ? "README.md is as due, with the " + rows + " answers of its example" : wrong + " things are not as due");
    if (wrong != 0) System.exit(1);
  }

  // ---- the example

  /** Each row "call;  // answer" becomes one that keeps what was answered; the others stay as they are. */
  private static int example(String text) throws Exception {
    Matcher block = Pattern.compile("(?s)```java\n(.*?)```").matcher(text);
    StringBuilder code = new StringBuilder("import java.util.List;\npublic final class ReadmeExample {\n  public static void run(List<Long> got) {\n");
    List<String> rows = new ArrayList<>();
    List<Long> want = new ArrayList<>();
    while (block.find()) {
      for (String line : block.group(1).split("\n")) {
        Matcher row = Pattern.compile("(x\\.\\w+\\(.*?\\));\\s+// (-?\\w+).*").matcher(line);
        if (!row.matches()) { code.append(line).append('\n'); continue; }
        rows.add(row.group(1));
        want.add(answer(row.group(2)));
        code.append("got.add((long) ").append(row.group(1)).append(");\n");
      }
    }
    List<Long> got = run(code.append("  }\n}\n").toString());
    due("answers of the example", want.size(), got.size());
    for (int i = 0; i < Math.min(got.size(), want.size()); i++) due(rows.get(i), want.get(i), got.get(i));
    shown(rows);
    return rows.size();
  }

  private static long answer(String word) throws Exception {
    return Character.isLetter(word.charAt(0)) ? IslandsWed.class.getField(word).getInt(null) : Long.parseLong(word);
  }

  private static List<Long> run(String code) throws Exception {
    Path room = Files.createTempDirectory(Files.createDirectories(ROOT.resolve("build")), "readme");
    List<Long> got = new ArrayList<>();
    try {
      Path file = Files.writeString(room.resolve("ReadmeExample.java"), code);
      String classes = System.getProperty("java.class.path");
      int failed = ToolProvider.getSystemJavaCompiler().run(null, System.out, System.out, "-proc:none", "-cp", classes, "-d", room.toString(), file.toString());
      due("the example compiles", failed == 0, true);
      if (failed != 0) return got;
      try (URLClassLoader loader = new URLClassLoader(new URL[] {room.toUri().toURL()})) {
        loader.loadClass("ReadmeExample").getMethod("run", List.class).invoke(null, got);
      }
    } finally {
      remove(room);
    }
    return got;
  }

  private static void remove(Path room) throws IOException {
    try (Stream<Path> all = Files.walk(room)) {
      for (Path path : all.sorted(Comparator.reverseOrder()).toList()) Files.delete(path);
    }
  }

  /** The example shows nearly all calls; letter() stands in its loop. */
  private static void shown(List<String> rows) {
    TreeSet<String> left = new TreeSet<>(names());
    for (String row : rows) left.remove(row.replaceAll("x\\.(\\w+)\\(.*", "$1"));
    due("calls that the example leaves out", left.toString(), "[anchor, blank, digest, forget, letter]");
  }

  private static TreeSet<String> names() {
    TreeSet<String> names = new TreeSet<>();
    for (Method method : IslandsWed.class.getDeclaredMethods()) if (Modifier.isPublic(method.getModifiers())) names.add(method.getName());
    return names;
  }

  // ---- the tables

  private static void refusals(String text) throws Exception {
    Matcher row = Pattern.compile("(?m)^\\| `([A-Z]+)`\\s*\\| (-\\d+)\\s*\\|").matcher(text);
    TreeMap<String, Integer> told = new TreeMap<>();
    while (row.find()) told.put(row.group(1), Integer.valueOf(row.group(2)));
    TreeMap<String, Integer> real = new TreeMap<>();
    for (String name : new String[] {"UNKNOWN", "OUTSIDE", "STATE", "FULL"}) real.put(name, IslandsWed.class.getField(name).getInt(null));
    due("refusals", told, real);
    due("NONE", text.contains("`NONE` (" + IslandsWed.NONE + ")"), true);
  }

  /** Each call as the document's face has it, with its refusals in the document's order. */
  private static void calls(String text) throws IOException {
    Matcher row = Pattern.compile("(?m)^\\| `(\\w+)(\\(.*?\\))`\\s*\\|[^|]*\\|([^|]*)\\|$").matcher(text);
    TreeMap<String, String> faces = new TreeMap<>();
    TreeMap<String, List<String>> told = new TreeMap<>();
    while (row.find()) {
      faces.put(row.group(1), row.group(2));
      told.put(row.group(1), words(row.group(3)));
    }
    due("calls", told.keySet(), names());
    String document = Files.readString(ROOT.resolve("../shared/DOC.md"));
    Matcher promise = Pattern.compile("(?m)^`(?:int|long) (\\w+)(\\(.*?\\))`: (.*)$").matcher(document);
    int found = 0;
    while (promise.find()) {
      found++;
      due(promise.group(1) + " in the face", faces.get(promise.group(1)), promise.group(2));
      due(promise.group(1) + " is refused by", told.get(promise.group(1)), words(promise.group(3)));
    }
    due("promises of calls", found, names().size());
  }

  private static List<String> words(String text) {
    List<String> found = new ArrayList<>();
    Matcher word = REFUSAL.matcher(text);
    while (word.find()) found.add(word.group());
    return found;
  }

  // ---- the list of tests

  private static void tests(String text) throws IOException {
    TreeSet<String> told = new TreeSet<>();
    Matcher row = Pattern.compile("(?m)^- `src/test/java/(\\w+)\\.java`").matcher(text);
    while (row.find()) told.add(row.group(1));
    TreeSet<String> real = new TreeSet<>();
    try (Stream<Path> all = Files.list(ROOT.resolve("src/test/java"))) {
      for (Path path : all.toList()) real.add(path.getFileName().toString().replace(".java", ""));
    }
    due("tests", told, real);
  }
}
