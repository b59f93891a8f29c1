import java.io.IOException;
import java.nio.file.Files;
import java.nio.file.Path;
import java.util.ArrayList;
import java.util.List;
import java.util.TreeSet;

/** Tests told by the document's own words: each is of one sentence, and what fails is told with that sentence. */
abstract class Sentences {
  static final int NONE = -1, UNKNOWN = -101, OUTSIDE = -102, STATE = -103, FULL = -104;
  static final int MIN = Integer.MIN_VALUE, MAX = Integer.MAX_VALUE;
  static final int ISLAND = 0, ROCK = 1, SAIL = 2, TIDAL = 3, BERG = 4;
  static final String STILL = "............", ON = ">>>>>>>>>>>>", BACK = "<<<<<<<<<<<<";

  interface Scene { IslandsWed make(); }

  interface Call { long on(IslandsWed x); }

  private static final List<String> quoted = new ArrayList<>();
  private static final TreeSet<Integer> promises = new TreeSet<>();
  private static String now = "";
  private static int rows = 0;
  private static int wrong = 0;

  /** A test of a sentence; promise 0 stands for what is told under "What it is" and "Terms". */
  static void of(int promise, String words, Runnable test) {
    now = "promise " + promise + ", \"" + words + "\"";
    quoted.add(words);
    promises.add(promise);
    test.run();
  }

  static void due(long got, long want) {
    rows++;
    if (got != want) {
      wrong++;
      System.out.println(now + ", " + lines() + ": answered " + got + ", due is " + want);
    }
  }

  /** Where it was asked: from the innermost line of the test to the outermost one. */
  private static String lines() {
    StringBuilder text = new StringBuilder();
    for (StackTraceElement step : new Throwable().getStackTrace()) {
      boolean ofTest = !step.getClassName().equals("Sentences") && !step.getMethodName().equals("main");
      if (ofTest) text.append(text.length() == 0 ? "line " : " from ").append(step.getLineNumber());
    }
    return text.toString();
  }

  /** Each call is refused on an object of its own, and leaves it as one like it that was not asked. */
  static void refused(int want, Scene scene, Call... calls) {
    List<Long> unasked = tell(scene.make());
    for (Call call : calls) {
      IslandsWed x = scene.make();
      due(call.on(x), want);
      List<Long> asked = tell(x);
      due(asked.size(), unasked.size());
      for (int i = 0; i < Math.min(asked.size(), unasked.size()); i++) due(asked.get(i), unasked.get(i));
    }
  }

  /**
   * All that an object holds, told by what it answers, now and later: its image, and what new islands meet, too.
   * It asks for nothing that is refused, but for restore(): else each object would tell of a refusal's traces.
   */
  private static List<Long> tell(IslandsWed x) {
    List<Long> all = new ArrayList<>();
    tellNow(x, all);
    fill(x, all);
    all.add((long) x.restore());
    tellNow(x, all);
    fill(x, all);
    all.add((long) x.forget());
    all.add((long) x.blank());
    write(x, "><.><.><.><.");
    all.add((long) x.sea());
    tellNow(x, all);
    fill(x, all);
    all.add((long) x.restore());
    return all;
  }

  private static void tellNow(IslandsWed x, List<Long> all) {
    all.add(x.digest());
    all.add((long) x.fault());
    all.add((long) x.count(0));
    if (x.count(0) > 0) all.add((long) x.seasons(9, 4, 1));
    for (int island = 0; island < x.count(2); island++) {
      all.add((long) x.guess(island, 0));
      all.add((long) x.guess(island, 1));
    }
  }

  /** Rows that are full at the end, so that what a refused call has left behind comes to light. */
  private static void fill(IslandsWed x, List<Long> all) {
    if (x.count(0) == 0) return;
    for (int place = 0; place < 12 && x.count(2) < 5; place++) {
      if (x.place(place, 1) == NONE) all.add((long) x.island(SAIL, 1, place));
    }
    tellNow(x, all);
    for (int shells = x.count(8); shells < 8; shells++) all.add((long) x.shell(3, 4, 2 * shells, false));
    tellNow(x, all);
    all.add((long) x.day());
    all.add(x.digest());
  }

  static IslandsWed write(IslandsWed x, String text) {
    for (char c : text.toCharArray()) x.letter(c);
    return x;
  }

  static IslandsWed page(String text) {
    return write(new IslandsWed(), text);
  }

  static IslandsWed sea(String text) {
    IslandsWed x = page(text);
    x.sea();
    return x;
  }

  /** A still sea with islands of one kind and size 1 on these places. */
  static IslandsWed still(int kind, int... places) {
    return with(STILL, kind, places);
  }

  static IslandsWed with(String text, int kind, int... places) {
    IslandsWed x = sea(text);
    for (int place : places) x.island(kind, 1, place);
    return x;
  }

  /** Where the islands are, by number. */
  static void places(IslandsWed x, int... want) {
    for (int island = 0; island < want.length; island++) due(x.about(island, 2), want[island]);
  }

  static void counts(IslandsWed x, int... want) {
    for (int what = 0; what < want.length; what++) due(x.count(what), want[what]);
  }

  /** That the words are the document's is looked at too, where the document is at hand. */
  private static void lookUpWords() {
    Path file = Path.of(System.getProperty("project.root", "."), "..", "shared", "DOC.md");
    if (!Files.exists(file)) return;
    try {
      String text = Files.readString(file);
      for (String words : quoted) {
        if (!text.contains(words)) {
          wrong++;
          System.out.println("the document does not say \"" + words + "\"");
        }
      }
    } catch (IOException unread) {
      wrong++;
      System.out.println("the document cannot be read: " + unread);
    }
  }

  static void end(int... due) {
    for (int promise : due) {
      if (!promises.contains(promise)) {
        wrong++;
        System.out.println("promise " + promise + " has no test");
      }
    }
    lookUpWords();
    System.out.println(wrong == 0 ? quoted.size() + " tests of sentences: all " + rows + " answers are as due" : wrong + " answers are not as due");
    if (wrong != 0) System.exit(1);
  }
}
