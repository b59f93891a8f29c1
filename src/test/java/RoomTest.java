import com.sun.management.ThreadMXBean;
import java.lang.management.ManagementFactory;
import java.lang.reflect.Array;
import java.lang.reflect.Field;
import java.lang.reflect.Modifier;
import java.util.ArrayList;
import java.util.IdentityHashMap;
import java.util.List;
import java.util.Map;

/** All calls of one run live in one room: an object is small, stays so, and no call makes another object. */
public final class RoomTest {
  private static final int ROUNDS = 400;
  private static int wrong = 0;
  /** What was answered is kept, so that no call is left out as idle. */
  private static long kept = 0;

  private static void due(String what, boolean is) {
    if (!is) {
      wrong++;
      System.out.println(what);
    }
  }

  public static void main(String[] args) throws Exception {
    int[] fresh = room(new IslandsWed());
    IslandsWed used = new IslandsWed();
    kept += round(used);
    int[] late = room(used);
    due("a new object is " + fresh[0] + " objects and arrays", fresh[0] <= 60);
    due("a new object has " + fresh[1] + " fields and elements", fresh[1] <= 600);
    due("it has grown to " + late[0] + " and " + late[1], late[0] == fresh[0] && late[1] == fresh[1]);
    bytes();
    System.out.println(wrong == 0 ? "an object is " + fresh[0] + " objects and arrays, " + fresh[1] + " fields and elements; no call makes one" : wrong + " things are not as due");
    if (wrong != 0) System.exit(1);
  }

  /** How many objects and arrays hang on this one, and how many fields and elements they have. */
  private static int[] room(Object first) throws IllegalAccessException {
    Map<Object, Boolean> seen = new IdentityHashMap<>();
    List<Object> open = new ArrayList<>(List.of(first));
    int parts = 0;
    while (!open.isEmpty()) {
      Object next = open.remove(open.size() - 1);
      if (seen.put(next, true) != null) continue;
      if (next.getClass().isArray()) {
        parts += Array.getLength(next);
        continue;
      }
      for (Field field : next.getClass().getDeclaredFields()) {
        if (Modifier.isStatic(field.getModifiers())) continue;
        parts++;
        field.setAccessible(true);
        if (!field.getType().isPrimitive() && field.get(next) != null) open.add(field.get(next));
      }
    }
    return new int[] {seen.size(), parts};
  }

  /** Objects are made ahead; then rounds of all calls take next to no room, so no call makes anything. */
  private static void bytes() {
    ThreadMXBean threads = (ThreadMXBean) ManagementFactory.getThreadMXBean();
    long self = Thread.currentThread().getId();
    if (!threads.isThreadAllocatedMemorySupported()) return;
    IslandsWed[] made = new IslandsWed[ROUNDS];
    for (int i = 0; i < ROUNDS; i++) made[i] = new IslandsWed();
    for (int i = 0; i < ROUNDS / 2; i++) kept += round(made[i]);
    long before = threads.getThreadAllocatedBytes(self);
    for (int i = ROUNDS / 2; i < ROUNDS; i++) kept += round(made[i]);
    long taken = threads.getThreadAllocatedBytes(self) - before;
    due(ROUNDS / 2 + " rounds of all calls took " + taken + " bytes", taken < 16L * ROUNDS / 2);
  }

  /** Every call at least once, taken and refused. */
  private static long round(IslandsWed x) {
    long sum = x.digest() + x.sea() + x.letter(0) + x.letter('x') + x.blank();
    for (int i = 0; i < 12; i++) sum += x.letter(i % 5 == 0 ? '<' : i % 3 == 0 ? '.' : '>');
    sum += x.fault() + x.sea() + x.wind(1);
    for (int i = 0; i < 6; i++) sum += x.island(i % 5, 9 - i, 2 * i);
    for (int i = -1; i < 13; i++) sum += x.about(i / 2, i) + x.place(i, 1) + x.as(i, 2) + x.count(i);
    for (int d = 0; d < 5; d++) sum += x.day() + x.wed(d, d + 1) + x.wed(0, d) + x.anchor(d, d == 2);
    for (int a = 0; a < 5; a++) sum += x.meet(a, 0) + x.anchors(a, 1, 30, 1) + x.parting(a, 2) + x.shell(a, 3, a, false) + x.guess(a, 0);
    sum += x.image() + x.seasons(60, 7, 1) + x.day() + x.axe(0, 1) + x.axe(1, 2) + x.digest() + x.restore() + x.forget();
    for (int what = -1; what < 16; what++) sum += x.stable(what);
    return sum + x.digest();
  }
}
