import java.util.ArrayList;
import java.util.Arrays;
import java.util.HashSet;
import java.util.List;
import java.util.Random;
import java.util.Set;
import java.util.TreeMap;

/** Long runs of calls, ordinary and wild ones, against a second, plain reading of the document. */
public final class ModelRuns {
  private static final int RUNS = 250;
  private static final int CALLS = 500;
  private static int wrong = 0;
  private static final TreeMap<String, Integer> answered = new TreeMap<>();

  public static void main(String[] args) {
    for (int run = 0; run < RUNS && wrong < 20; run++) play(run);
    for (String name : new String[] {"letter", "blank", "fault", "sea", "place", "wind", "island", "about", "as", "anchor", "wed", "axe", "day",
        "meet", "anchors", "stable", "parting", "shell", "forget", "guess", "seasons", "image", "restore", "count", "digest"}) {
      if (answered.getOrDefault(name, 0) < 100) { wrong++; System.out.println(name + " was answered too seldom: " + answered.get(name)); }
    }
    System.out.println(wrong == 0 ? "all runs are as due" : wrong + " answers are not as due");
    if (wrong != 0) System.exit(1);
  }

  private static void play(int run) {
    Random random = new Random(run);
    IslandsWed real = new IslandsWed();
    Model model = new Model();
    List<String> told = new ArrayList<>();
    boolean wild = run % 4 == 0;
    if (run % 7 != 0) write(real, model, random, told);
    for (int i = 0; i < CALLS - 20; i++) {
      if (random.nextInt(150) == 0 && i < CALLS - 60) { write(real, model, random, told); i += 13; continue; }
      String call = pick(random);
      int[] a = arguments(call, random, wild && random.nextInt(3) == 0, model);
      boolean is = random.nextBoolean();
      if (!same(real, model, call, a, is, told, run)) return;
    }
    same(real, model, "digest", new int[4], false, told, run);
  }

  private static void write(IslandsWed real, Model model, Random random, List<String> told) {
    int style = random.nextInt(4);
    same(real, model, "blank", new int[4], false, told, -1);
    for (int i = 0; i < 12; i++) {
      int sign = style == 0 ? '>' : style == 1 ? '.' : "><.".charAt(random.nextInt(3));
      same(real, model, "letter", new int[] {sign, 0, 0, 0}, false, told, -1);
    }
    same(real, model, "sea", new int[4], false, told, -1);
  }

  private static final String[] OFTEN = {"island", "island", "day", "day", "day", "day", "wed", "wed", "wed", "wed", "axe", "about", "about", "about", "meet", "meet",
      "anchors", "stable", "parting", "shell", "guess", "seasons", "wind", "anchor", "place", "as", "count", "count", "image", "restore", "forget", "digest", "letter", "blank", "fault", "sea"};

  private static String pick(Random random) {
    String call = OFTEN[random.nextInt(OFTEN.length)];
    boolean undoes = call.equals("forget") || call.equals("restore") || call.equals("axe") || call.equals("blank");
    return undoes && random.nextInt(3) != 0 ? "day" : call;
  }

  private static int wildNumber(Random random) {
    int[] some = {Integer.MIN_VALUE, Integer.MAX_VALUE, -1, 0, 1, 4, 5, 6, 9, 10, 11, 12, 14, 15, 20, 21, 30, 31, 60, 61, 126, 127, 32, -2, 64, 1 << 30};
    return random.nextInt(4) == 0 ? random.nextInt() : some[random.nextInt(some.length)];
  }

  private static int[] arguments(String call, Random random, boolean wild, Model model) {
    int[] a = new int[4];
    int n = model.islands.size();
    int one = random.nextInt(Math.max(n, 1));
    int other = random.nextInt(Math.max(n, 1) + (random.nextInt(10) == 0 ? 1 : 0));
    switch (call) {
      case "letter": a[0] = random.nextInt(12) == 0 ? random.nextInt(130) - 1 : "><.".charAt(random.nextInt(3)); break;
      case "place": a[0] = random.nextInt(13); a[1] = random.nextInt(3); break;
      case "wind": a[0] = random.nextInt(3) - 1; break;
      case "island": a[0] = random.nextInt(5); a[1] = random.nextInt(11); a[2] = n > 0 && random.nextBoolean() ? model.islands.get(one).place + random.nextInt(3) - 1 : random.nextInt(12); break;
      case "about": a[0] = one; a[1] = random.nextInt(9); break;
      case "as": a[0] = one; a[1] = random.nextInt(6); break;
      case "anchors": a[0] = one; a[1] = other; a[2] = random.nextInt(32); a[3] = random.nextInt(2); break;
      case "stable": a[0] = random.nextInt(2) == 0 ? random.nextInt(3) : 9 + random.nextInt(7); break;
      case "shell": a[0] = one; a[1] = other; a[2] = random.nextInt(4) == 0 ? random.nextInt(22) : random.nextInt(4); break;
      case "guess": a[0] = one; a[1] = random.nextInt(2); break;
      case "seasons": a[0] = random.nextInt(62); a[1] = random.nextInt() & Integer.MAX_VALUE; a[2] = random.nextInt(3); break;
      case "count": a[0] = random.nextInt(13); break;
      default: a[0] = one; a[1] = likely(call, one, other, random, model); break;
    }
    if (wild) a[random.nextInt(4)] = wildNumber(random);
    return a;
  }

  /** Pairs that can be wed, axed or parted are rare: half of the time one is looked for. */
  private static int likely(String call, int one, int other, Random random, Model model) {
    if (model.not(one) || random.nextBoolean()) return other;
    int bits = call.equals("wed") ? model.about(one, 6) : call.equals("axe") ? model.about(one, 7) : call.equals("parting") ? model.about(one, 5) & ~(1 << one) : 0;
    return bits == 0 ? other : Integer.numberOfTrailingZeros(random.nextBoolean() ? Integer.lowestOneBit(bits) : Integer.highestOneBit(bits));
  }

  private static boolean same(IslandsWed real, Model model, String call, int[] a, boolean is, List<String> told, int run) {
    long due = model.call(call, a, is);
    String row = call + Arrays.toString(a) + " " + is;
    long got;
    try {
      got = answer(real, call, a, is);
    } catch (RuntimeException thrown) {
      wrong++;
      System.out.println("run " + run + " behind " + told.size() + " calls: " + row + " threw " + thrown);
      return false;
    }
    told.add(row + " = " + got);
    if (due > -101 || due < -104) answered.merge(call, 1, Integer::sum);
    if (got == due) return true;
    wrong++;
    System.out.println("run " + run + " behind " + told.size() + " calls: " + row + " answered " + got + ", due is " + due);
    return false;
  }

  private static long answer(IslandsWed x, String call, int[] a, boolean is) {
    switch (call) {
      case "letter": return x.letter(a[0]);
      case "blank": return x.blank();
      case "fault": return x.fault();
      case "sea": return x.sea();
      case "place": return x.place(a[0], a[1]);
      case "wind": return x.wind(a[0]);
      case "island": return x.island(a[0], a[1], a[2]);
      case "about": return x.about(a[0], a[1]);
      case "as": return x.as(a[0], a[1]);
      case "anchor": return x.anchor(a[0], is);
      case "wed": return x.wed(a[0], a[1]);
      case "axe": return x.axe(a[0], a[1]);
      case "day": return x.day();
      case "meet": return x.meet(a[0], a[1]);
      case "anchors": return x.anchors(a[0], a[1], a[2], a[3]);
      case "stable": return x.stable(a[0]);
      case "parting": return x.parting(a[0], a[1]);
      case "shell": return x.shell(a[0], a[1], a[2], is);
      case "forget": return x.forget();
      case "guess": return x.guess(a[0], a[1]);
      case "seasons": return x.seasons(a[0], a[1], a[2]);
      case "image": return x.image();
      case "restore": return x.restore();
      case "count": return x.count(a[0]);
      default: return x.digest();
    }
  }

  private static final class Isle {
    int kind, size, place;
    boolean anchored;
    Isle same() { Isle i = new Isle(); i.kind = kind; i.size = size; i.place = place; i.anchored = anchored; return i; }
  }

  /** The document's words, one after the other, with no care for speed. */
  private static final class Model {
    static final int NONE = -1, UNKNOWN = -101, OUTSIDE = -102, STATE = -103, FULL = -104;
    StringBuilder page = new StringBuilder();
    String sea = null;
    List<Isle> islands = new ArrayList<>();
    Set<Integer> ropes = new HashSet<>();
    List<int[]> shells = new ArrayList<>();
    int wind, day, bumps, seas, asked;
    Model kept = null;

    Model same() {
      Model m = new Model();
      m.sea = sea; m.wind = wind; m.day = day; m.bumps = bumps;
      for (Isle i : islands) m.islands.add(i.same());
      m.ropes.addAll(ropes);
      m.shells.addAll(shells);
      return m;
    }

    long call(String call, int[] a, boolean is) {
      switch (call) {
        case "letter": if (a[0] < 1 || a[0] > 126) return OUTSIDE; if (page.length() == 14) return FULL; return page.append((char) a[0]).length();
        case "blank": { int had = page.length(); page = new StringBuilder(); return had; }
        case "fault": for (int i = 0; i < page.length(); i++) if (i > 11 || "<>.".indexOf(page.charAt(i)) < 0) return i; return page.length();
        case "sea": return read();
        case "place": if (sea == null || a[0] < 0 || a[0] > 11) return UNKNOWN; if (a[1] != 0 && a[1] != 1) return OUTSIDE; return a[1] == 0 ? flow(a[0]) : at(a[0]);
        case "wind": { if (a[0] < -1 || a[0] > 1) return OUTSIDE; if (sea == null) return STATE; int was = wind; wind = a[0]; return was + 1; }
        case "island": return island(a[0], a[1], a[2]);
        case "about": if (not(a[0])) return UNKNOWN; if (a[1] < 0 || a[1] > 7) return OUTSIDE; return about(a[0], a[1]);
        case "as": { if (not(a[0])) return UNKNOWN; if (a[1] < 0 || a[1] > 4) return OUTSIDE; String such = new String[] {"0", "01", "02", "03", "024"}[islands.get(a[0]).kind]; return such.indexOf('0' + a[1]) >= 0 ? a[0] : NONE; }
        case "anchor": { if (not(a[0])) return UNKNOWN; int was = islands.get(a[0]).anchored ? 1 : 0; islands.get(a[0]).anchored = is; return was; }
        case "wed": if (noPair(a)) return UNKNOWN; if (ropes.contains(rope(a[0], a[1])) || !beside(a[0], a[1])) return STATE; if (ropes.size() == 6) return FULL; ropes.add(rope(a[0], a[1])); return ropes.size();
        case "axe": if (noPair(a)) return UNKNOWN; if (!ropes.remove(rope(a[0], a[1]))) return STATE; return ropes.size();
        case "day": return sea == null ? STATE : drift();
        case "meet": return noPair(a) ? UNKNOWN : meet(a[0], a[1], 60);
        case "anchors": return anchors(a);
        case "stable": if (a[0] != 0 && a[0] != 1 && (a[0] < 10 || a[0] > 14)) return OUTSIDE; return sea == null ? STATE : stable(a[0]);
        case "parting": if (noPair(a)) return UNKNOWN; return party(a[0]).contains(a[1]) ? parting(a[0], a[1]) : STATE;
        case "shell": if (noPair(a)) return UNKNOWN; if (a[2] < 0 || a[2] > 20) return OUTSIDE; if (shells.size() == 8) return FULL; shells.add(new int[] {a[0], a[1], a[2], is ? 1 : 0}); return shells.size();
        case "forget": { int had = shells.size(); shells.clear(); return had; }
        case "guess": if (not(a[0])) return UNKNOWN; if (a[1] != 0 && a[1] != 1) return OUTSIDE; return guess(a[0], a[1]);
        case "seasons": return seasons(a[0], a[1], a[2]);
        case "image": if (sea == null) return STATE; kept = same(); return day;
        case "restore": return restore();
        case "count": return count(a[0]);
        default: return digest();
      }
    }

    int read() {
      if (!page.toString().matches("[<>.]{12}")) return STATE;
      sea = page.toString();
      page = new StringBuilder();
      islands.clear(); ropes.clear(); shells.clear();
      wind = day = bumps = 0;
      kept = null;
      seas++;
      return sea.replace(".", "").length();
    }

    int flow(int place) { return sea.charAt(place) == '>' ? 1 : sea.charAt(place) == '<' ? -1 : 0; }
    int at(int place) { for (int i = 0; i < islands.size(); i++) if (islands.get(i).place == place) return i; return NONE; }
    boolean not(int island) { return island < 0 || island >= islands.size(); }
    boolean noPair(int[] a) { return not(a[0]) || not(a[1]) || a[0] == a[1]; }
    int rope(int a, int b) { return 10 * Math.min(a, b) + Math.max(a, b); }
    boolean beside(int a, int b) { int apart = Math.floorMod(islands.get(a).place - islands.get(b).place, 12); return apart == 1 || apart == 11; }

    int island(int kind, int size, int place) {
      if (kind < 0 || kind > 4 || size < 1 || size > 9) return OUTSIDE;
      if (sea == null || place < 0 || place > 11) return UNKNOWN;
      if (at(place) != NONE) return STATE;
      if (islands.size() == 5) return FULL;
      Isle i = new Isle();
      i.kind = kind; i.size = size; i.place = place;
      islands.add(i);
      return islands.size() - 1;
    }

    int push(int island) {
      Isle i = islands.get(island);
      int flow = flow(i.place);
      if (i.anchored) return 0;
      switch (i.kind) {
        case 0: return flow;
        case 1: return 0;
        case 2: return flow + wind;
        case 3: return (day & 1) == 0 ? -flow : flow;
        default: return wind + wind + flow;
      }
    }

    Set<Integer> party(int island) {
      Set<Integer> found = new HashSet<>();
      List<Integer> open = new ArrayList<>(List.of(island));
      while (!open.isEmpty()) {
        int next = open.remove(0);
        if (!found.add(next)) continue;
        for (int rope : ropes) { if (rope / 10 == next) open.add(rope % 10); if (rope % 10 == next) open.add(rope / 10); }
      }
      return found;
    }

    int about(int i, int what) {
      int bits = 0;
      switch (what) {
        case 0: return islands.get(i).kind;
        case 1: return islands.get(i).size;
        case 2: return islands.get(i).place;
        case 3: return push(i) + 100;
        case 4: return islands.get(i).anchored ? 1 : 0;
        case 5: for (int member : party(i)) bits += 1 << member; return bits;
        case 6: for (int j = 0; j < islands.size(); j++) if (j != i && beside(i, j)) bits += 1 << j; return bits;
        default: for (int j = 0; j < islands.size(); j++) if (ropes.contains(rope(i, j))) bits += 1 << j; return bits;
      }
    }

    int drift() {
      int bumping = 0;
      for (int i = 0; i < islands.size(); i++) {
        Set<Integer> party = party(i);
        if (party.stream().mapToInt(x -> x).min().getAsInt() < i) continue;
        int sum = 0;
        for (int member : party) sum += push(member) * islands.get(member).size;
        int step = Integer.signum(sum);
        if (step == 0) continue;
        boolean free = true;
        for (int member : party) { int there = at(Math.floorMod(islands.get(member).place + step, 12)); free &= there == NONE || party.contains(there); }
        if (!free) { bumping++; continue; }
        for (int member : party) islands.get(member).place = Math.floorMod(islands.get(member).place + step, 12);
      }
      bumps += bumping;
      day++;
      return bumping;
    }

    int meet(int a, int b, int days) {
      Model m = same();
      for (int d = 0; d <= days; d++) { if (m.beside(a, b)) return d; m.drift(); }
      return NONE;
    }

    int anchors(int[] a) {
      if (noPair(a)) return UNKNOWN;
      if (a[2] < 0 || a[2] > 30 || a[3] < 0 || a[3] > 1) return OUTSIDE;
      if (asked == 30) return STATE;
      asked++;
      int best = NONE;
      for (int set = 0; set < 1 << islands.size(); set++) {
        Model m = same();
        for (int i = 0; i < islands.size(); i++) if ((set >> i) % 2 == 1) m.islands.get(i).anchored = true;
        if (m.meet(a[0], a[1], a[2]) == NONE) continue;
        if (best == NONE || Integer.bitCount(set) < Integer.bitCount(best)) best = set;
      }
      return best == NONE || a[3] == 1 ? best : Integer.bitCount(best);
    }

    boolean better(int x, int y) {
      if (y == NONE) return true;
      return islands.get(x).size * 10 - x > islands.get(y).size * 10 - y;
    }

    int stable(int what) {
      int n = islands.size();
      boolean[][] would = new boolean[n][n];
      for (int i = 0; i < n; i++) for (int j = 0; j < n; j++) would[i][j] = i != j && meet(i, j, 30) != NONE;
      int many = 0, most = -1;
      int[] best = {NONE, NONE, NONE, NONE, NONE};
      int all = (int) Math.pow(n + 1, n);
      for (int code = 0; code < all; code++) {
        int[] has = {NONE, NONE, NONE, NONE, NONE};
        int rest = code;
        for (int i = n - 1; i >= 0; i--) { has[i] = rest % (n + 1) - 1; rest /= n + 1; }
        int ends = 0;
        boolean good = true;
        for (int i = 0; i < n; i++) if (has[i] != NONE) { ends++; good &= would[i][has[i]] && has[has[i]] == i; }
        for (int i = 0; i < n && good; i++) for (int j = 0; j < n; j++) if (would[i][j] && has[i] != j && better(j, has[i]) && better(i, has[j])) good = false;
        if (!good) continue;
        many++;
        if (ends / 2 > most) { most = ends / 2; best = has; }
      }
      return what == 0 ? many : what == 1 ? Math.max(0, most) : best[what - 10];
    }

    int parting(int a, int b) {
      List<Integer> all = new ArrayList<>(ropes);
      int few = all.size();
      for (int set = 0; set < 1 << all.size(); set++) {
        Model m = same();
        for (int r = 0; r < all.size(); r++) if ((set >> r) % 2 == 1) m.ropes.remove(all.get(r));
        if (!m.party(a).contains(b)) few = Math.min(few, Integer.bitCount(set));
      }
      return few;
    }

    int guess(int island, int what) {
      List<Integer> good = new ArrayList<>();
      for (int code = 0; code < 36; code++) {
        if (at(code / 3) != NONE && at(code / 3) != island) continue;
        boolean all = true;
        for (int[] shell : shells) {
          Model m = same();
          m.islands.get(island).place = code / 3;
          m.wind = code % 3 - 1;
          for (int d = 0; d < shell[2]; d++) m.drift();
          all &= m.beside(shell[0], shell[1]) == (shell[3] == 1);
        }
        if (all) good.add(code);
      }
      return what == 0 ? good.size() : good.isEmpty() ? NONE : good.get(0);
    }

    int seasons(int days, int seed, int what) {
      if (days < 1 || days > 60 || seed < 0 || what < 0 || what > 2) return OUTSIDE;
      if (sea == null) return STATE;
      Model m = same();
      m.bumps = 0;
      long next = seed;
      for (int d = 0; d < days; d++) { next = (next * 1103515245L + 12345L) % 2147483648L; m.wind = (int) (next / 65536 % 3) - 1; m.drift(); }
      int pairs = 0;
      for (int i = 0; i < islands.size(); i++) for (int j = 0; j < i; j++) if (m.beside(i, j)) pairs++;
      return what == 0 ? m.bumps : what == 1 ? pairs : (int) next;
    }

    int restore() {
      if (kept == null) return STATE;
      Model m = kept.same();
      islands = m.islands; ropes = m.ropes; shells = m.shells;
      wind = m.wind; day = m.day; bumps = m.bumps;
      return day;
    }

    int count(int what) {
      Set<Set<Integer>> parties = new HashSet<>();
      for (int i = 0; i < islands.size(); i++) parties.add(party(i));
      int[] all = {sea == null ? 0 : 12, sea == null ? 0 : sea.replace(".", "").length(), islands.size(), ropes.size(), parties.size(), day, bumps, wind + 1,
          shells.size(), page.length(), seas, asked};
      return what < 0 || what > 11 ? OUTSIDE : all[what];
    }

    long digest() {
      List<Integer> all = new ArrayList<>();
      if (sea != null) for (int place = 0; place < 12; place++) { all.add(flow(place)); all.add(at(place)); }
      for (int i = 0; i < islands.size(); i++) {
        for (int what = 0; what < 8; what++) all.add(about(i, what));
        for (int j = 0; j < islands.size(); j++) if (j != i) all.add(meet(i, j, 60));
      }
      if (sea != null) for (int what : new int[] {0, 1, 10, 11, 12, 13, 14}) all.add(stable(what));
      for (char c : page.toString().toCharArray()) all.add((int) c);
      for (int what = 0; what < 12; what++) all.add(count(what));
      long h = 857;
      for (int number : all) h = 31 * h + number;
      return h;
    }
  }
}
