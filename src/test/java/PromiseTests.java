import java.util.ArrayList;
import java.util.List;

/** Each promise of the document by hand: ordinary inputs, the edges it names, wrong inputs. */
public final class PromiseTests {
  private static final int NONE = -1, UNKNOWN = -101, OUTSIDE = -102, STATE = -103, FULL = -104;
  private static final int MIN = Integer.MIN_VALUE, MAX = Integer.MAX_VALUE;
  private static final int ISLAND = 0, ROCK = 1, SAIL = 2, TIDAL = 3, BERG = 4;
  private static final String STILL = "............", ON = ">>>>>>>>>>>>";
  private static int promise = 0;
  private static int row = 0;
  private static int wrong = 0;

  private static void due(long got, long want) {
    row++;
    if (got != want) {
      wrong++;
      System.out.println("promise " + promise + ", line " + line() + ": answered " + got + ", due is " + want);
    }
  }

  private static int line() {
    for (StackTraceElement at : new Throwable().getStackTrace()) if (at.getMethodName().startsWith("promise") || at.getMethodName().startsWith("refusals")) return at.getLineNumber();
    return 0;
  }

  private static IslandsWed write(IslandsWed x, String text) {
    for (char c : text.toCharArray()) x.letter(c);
    return x;
  }

  private static IslandsWed sea(String text) {
    IslandsWed x = write(new IslandsWed(), text);
    x.sea();
    return x;
  }

  private static void counts(IslandsWed x, int... want) {
    for (int what = 0; what < want.length; what++) due(x.count(what), want[what]);
  }

  public static void main(String[] args) {
    promise1(); promise2(); promise3(); promise4(); promise5(); promise6(); promise7(); promise8(); promise9();
    promise10(); promise11(); promise12(); promise13(); promise14(); promise15(); promise16(); promise17();
    promise18(); promise19(); promise20(); promise21(); promise22(); promise23(); promise24(); promise25();
    promise26(); refusals();
    System.out.println(wrong == 0 ? "all " + row + " answers are as due" : wrong + " answers are not as due");
    if (wrong != 0) System.exit(1);
  }

  private static void promise1() {
    promise = 1;
    IslandsWed x = new IslandsWed();
    counts(x, 0, 0, 0, 0, 0, 0, 0, 1, 0, 0, 0, 0);
    due(x.place(0, 0), UNKNOWN);
    due(x.island(0, 1, 0), UNKNOWN);
    due(x.about(0, 0), UNKNOWN);
    due(x.wind(0), STATE);
    due(x.day(), STATE);
    due(x.stable(0), STATE);
    due(x.seasons(1, 0, 0), STATE);
    due(x.image(), STATE);
    due(x.restore(), STATE);
    due(x.forget(), 0);
    due(x.blank(), 0);
    due(x.fault(), 0);
    due(x.sea(), STATE);
  }

  private static void promise2() {
    promise = 2;
    IslandsWed x = new IslandsWed();
    for (int code : new int[] {0, 127, -1, MIN, MAX, 256 + 46}) due(x.letter(code), OUTSIDE);
    due(x.letter(1), 1);
    due(x.letter(126), 2);
    for (int i = 3; i <= 14; i++) due(x.letter('.'), i);
    due(x.letter('.'), FULL);
    due(x.letter(0), OUTSIDE);
    due(x.count(9), 14);
  }

  private static void promise3() {
    promise = 3;
    IslandsWed x = write(new IslandsWed(), "abc");
    due(x.blank(), 3);
    due(x.blank(), 0);
    due(x.letter('>'), 1);
    IslandsWed full = write(new IslandsWed(), "..............");
    due(full.blank(), 14);
    due(full.count(9), 0);
  }

  private static void promise4() {
    promise = 4;
    due(new IslandsWed().fault(), 0);
    due(write(new IslandsWed(), "><.><").fault(), 5);
    due(write(new IslandsWed(), "><x><").fault(), 2);
    due(write(new IslandsWed(), "=").fault(), 0);
    due(write(new IslandsWed(), "...........x").fault(), 11);
    due(write(new IslandsWed(), STILL).fault(), 12);
    due(write(new IslandsWed(), STILL + ">").fault(), 12);
    due(write(new IslandsWed(), STILL + ">x").fault(), 12);
    for (int code = 1; code <= 126; code++) {
      IslandsWed x = new IslandsWed();
      x.letter(code);
      due(x.fault(), code == '<' || code == '>' || code == '.' ? 1 : 0);
    }
  }

  private static void promise5() {
    promise = 5;
    due(write(new IslandsWed(), "...........").sea(), STATE);
    due(write(new IslandsWed(), STILL + ".").sea(), STATE);
    due(write(new IslandsWed(), "......x.....").sea(), STATE);
    IslandsWed x = write(new IslandsWed(), "><..........");
    due(x.sea(), 2);
    counts(x, 12, 2, 0, 0, 0, 0, 0, 1, 0, 0, 1, 0);
    due(x.sea(), STATE);
    x.island(ISLAND, 1, 0);
    x.island(ISLAND, 1, 1);
    x.day();
    x.wed(0, 1);
    x.anchor(0, true);
    x.wind(1);
    x.shell(0, 1, 0, true);
    x.anchors(0, 1, 0, 0);
    x.image();
    counts(x, 12, 2, 2, 1, 1, 1, 2, 2, 1, 0, 1, 1);
    write(x, "<<<.");
    due(x.sea(), STATE);
    counts(x, 12, 2, 2, 1, 1, 1, 2, 2, 1, 4, 1, 1);
    due(x.restore(), 1);
    write(x, "........");
    due(x.sea(), 3);
    counts(x, 12, 3, 0, 0, 0, 0, 0, 1, 0, 0, 2, 1);
    due(x.place(0, 0), -1);
    due(x.restore(), STATE);
    due(x.island(ISLAND, 1, 0), 0);
    due(x.island(ISLAND, 1, 1), 1);
    due(x.about(0, 4), 0);
    due(x.about(0, 5), 1);
    due(x.about(0, 7), 0);
  }

  private static void promise6() {
    promise = 6;
    IslandsWed x = sea("><..........");
    x.island(ROCK, 1, 11);
    x.island(ROCK, 1, 0);
    due(x.place(0, 0), 1);
    due(x.place(1, 0), -1);
    due(x.place(2, 0), 0);
    due(x.place(0, 1), 1);
    due(x.place(11, 1), 0);
    due(x.place(5, 1), NONE);
    for (int place : new int[] {-1, 12, MIN, MAX}) {
      due(x.place(place, 0), UNKNOWN);
      due(x.place(place, 7), UNKNOWN);
    }
    for (int what : new int[] {-1, 2, MIN, MAX}) due(x.place(0, what), OUTSIDE);
    due(new IslandsWed().place(0, 9), UNKNOWN);
  }

  private static void promise7() {
    promise = 7;
    IslandsWed x = sea(STILL);
    due(x.wind(1), 1);
    due(x.wind(-1), 2);
    due(x.wind(0), 0);
    due(x.wind(0), 1);
    for (int wind : new int[] {-2, 2, MIN, MAX}) {
      due(x.wind(wind), OUTSIDE);
      due(new IslandsWed().wind(wind), OUTSIDE);
    }
    due(x.count(7), 1);
    due(new IslandsWed().wind(1), STATE);
  }

  private static void promise8() {
    promise = 8;
    IslandsWed x = sea(STILL);
    for (int kind : new int[] {-1, 5, MIN, MAX}) due(x.island(kind, 1, 99), OUTSIDE);
    for (int size : new int[] {0, 10, -1, MIN, MAX}) due(x.island(0, size, 99), OUTSIDE);
    for (int place : new int[] {-1, 12, MIN, MAX}) due(x.island(0, 1, place), UNKNOWN);
    due(x.island(ISLAND, 1, 0), 0);
    due(x.island(ROCK, 9, 0), STATE);
    due(x.island(ROCK, 9, 11), 1);
    due(x.island(SAIL, 5, 3), 2);
    due(x.island(TIDAL, 5, 5), 3);
    due(x.island(BERG, 5, 7), 4);
    due(x.island(BERG, 5, 7), STATE);
    due(x.island(BERG, 5, 8), FULL);
    due(x.island(BERG, 5, 12), UNKNOWN);
    due(x.island(BERG, 10, 8), OUTSIDE);
    due(x.count(2), 5);
    due(new IslandsWed().island(ISLAND, 1, 0), UNKNOWN);
    due(new IslandsWed().island(5, 1, 0), OUTSIDE);
  }

  private static void promise9() {
    promise = 9;
    IslandsWed x = sea("><..........");
    x.island(TIDAL, 7, 0);
    x.island(BERG, 9, 1);
    x.island(ROCK, 1, 11);
    x.island(SAIL, 2, 5);
    due(x.about(0, 0), TIDAL);
    due(x.about(1, 0), BERG);
    due(x.about(0, 1), 7);
    due(x.about(2, 2), 11);
    due(x.about(0, 3), 99);
    due(x.about(1, 3), 99);
    due(x.about(2, 3), 100);
    due(x.about(3, 3), 100);
    x.wind(1);
    due(x.about(0, 3), 99);
    due(x.about(1, 3), 101);
    due(x.about(2, 3), 100);
    due(x.about(3, 3), 101);
    x.wind(-1);
    due(x.about(1, 3), 97);
    due(x.about(3, 3), 99);
    due(x.about(1, 4), 0);
    x.anchor(1, true);
    due(x.about(1, 3), 100);
    due(x.about(1, 4), 1);
    due(x.about(0, 6), 6);
    due(x.about(1, 6), 1);
    due(x.about(2, 6), 1);
    due(x.about(3, 6), 0);
    x.wed(0, 1);
    x.wed(2, 0);
    due(x.about(0, 5), 7);
    due(x.about(1, 5), 7);
    due(x.about(3, 5), 8);
    due(x.about(0, 7), 6);
    due(x.about(1, 7), 1);
    due(x.about(2, 7), 1);
    due(x.about(3, 7), 0);
    for (int what : new int[] {-1, 8, MIN, MAX}) {
      due(x.about(0, what), OUTSIDE);
      due(x.about(4, what), UNKNOWN);
    }
    for (int island : new int[] {-1, 4, 5, 32, MIN, MAX}) due(x.about(island, 0), UNKNOWN);
    IslandsWed tidal = sea(">><<........");
    tidal.island(TIDAL, 1, 0);
    tidal.anchor(0, true);
    tidal.day();
    tidal.anchor(0, false);
    due(tidal.about(0, 3), 101);
    tidal.day();
    due(tidal.about(0, 3), 99);
    IslandsWed plain = sea("><..........");
    plain.wind(1);
    plain.island(ISLAND, 3, 1);
    due(plain.about(0, 3), 99);
  }

  private static void promise10() {
    promise = 10;
    IslandsWed x = sea(STILL);
    for (int kind = 0; kind < 5; kind++) x.island(kind, 1, 2 * kind);
    for (int own = 0; own < 5; own++) {
      for (int kind = 0; kind < 5; kind++) {
        boolean such = kind == ISLAND || kind == own || own == BERG && kind == SAIL;
        due(x.as(own, kind), such ? own : NONE);
      }
    }
    for (int kind : new int[] {-1, 5, MIN, MAX}) {
      due(x.as(0, kind), OUTSIDE);
      due(x.as(5, kind), UNKNOWN);
    }
    due(x.as(-1, 0), UNKNOWN);
  }

  private static void promise11() {
    promise = 11;
    IslandsWed x = sea(ON);
    x.island(ISLAND, 1, 0);
    x.island(ISLAND, 1, 6);
    due(x.anchor(0, true), 0);
    due(x.anchor(0, true), 1);
    due(x.anchor(1, false), 0);
    x.day();
    due(x.about(0, 2), 0);
    due(x.about(1, 2), 7);
    due(x.anchor(0, false), 1);
    due(x.anchor(0, false), 0);
    x.day();
    due(x.about(0, 2), 1);
    for (int island : new int[] {-1, 2, 32, MIN, MAX}) due(x.anchor(island, true), UNKNOWN);
    due(x.island(ISLAND, 1, 4), 2);
    due(x.about(2, 4), 0);
  }

  private static void promise12() {
    promise = 12;
    IslandsWed x = sea(STILL);
    x.island(ROCK, 1, 0);
    x.island(ROCK, 1, 11);
    x.island(ROCK, 1, 1);
    x.island(ROCK, 1, 3);
    due(x.wed(0, 1), 1);
    due(x.wed(0, 1), STATE);
    due(x.wed(1, 0), STATE);
    due(x.wed(2, 0), 2);
    due(x.wed(1, 2), STATE);
    due(x.wed(2, 3), STATE);
    due(x.wed(0, 0), UNKNOWN);
    due(x.wed(0, 4), UNKNOWN);
    due(x.wed(-1, 0), UNKNOWN);
    due(x.wed(MAX, MIN), UNKNOWN);
    due(x.count(3), 2);
    due(x.count(4), 2);
    x.island(ROCK, 1, 2);
    due(x.wed(4, 2), 3);
    due(x.wed(3, 4), 4);
    due(x.count(4), 1);
    due(x.about(3, 5), 31);
  }

  private static void promise13() {
    promise = 13;
    IslandsWed x = sea(STILL);
    x.island(ROCK, 1, 0);
    x.island(ROCK, 1, 1);
    x.island(ROCK, 1, 2);
    x.wed(0, 1);
    x.wed(1, 2);
    due(x.axe(0, 2), STATE);
    due(x.axe(1, 0), 1);
    due(x.about(0, 5), 1);
    due(x.about(2, 5), 6);
    due(x.axe(0, 1), STATE);
    due(x.axe(1, 2), 0);
    due(x.count(4), 3);
    due(x.axe(0, 0), UNKNOWN);
    due(x.axe(0, 3), UNKNOWN);
    due(x.axe(-1, 0), UNKNOWN);
    due(x.axe(MIN, MAX), UNKNOWN);
    due(x.wed(0, 1), 1);
  }

  private static void promise14() {
    promise = 14;
    due(new IslandsWed().day(), STATE);
    IslandsWed ring = sea(STILL);
    ring.island(SAIL, 1, 11);
    ring.wind(1);
    due(ring.day(), 0);
    due(ring.about(0, 2), 0);
    ring.wind(-1);
    due(ring.day(), 0);
    due(ring.about(0, 2), 11);
    due(ring.count(5), 2);

    IslandsWed lesserBehind = sea(ON);
    lesserBehind.island(ISLAND, 1, 0);
    lesserBehind.island(ISLAND, 1, 1);
    due(lesserBehind.day(), 1);
    due(lesserBehind.about(0, 2), 0);
    due(lesserBehind.about(1, 2), 2);
    due(lesserBehind.count(6), 1);
    IslandsWed lesserAhead = sea(ON);
    lesserAhead.island(ISLAND, 1, 1);
    lesserAhead.island(ISLAND, 1, 0);
    due(lesserAhead.day(), 0);
    due(lesserAhead.about(0, 2), 2);
    due(lesserAhead.about(1, 2), 1);

    for (int size = 1; size <= 3; size++) {
      IslandsWed pair = sea("><..........");
      pair.island(ISLAND, size, 0);
      pair.island(ISLAND, 2, 1);
      due(pair.day(), 2);
      pair.wed(0, 1);
      due(pair.day(), 0);
      due(pair.about(0, 2), size == 1 ? 11 : size == 2 ? 0 : 1);
      due(pair.about(1, 2), size == 1 ? 0 : size == 2 ? 1 : 2);
      due(pair.count(6), 2);
    }
    IslandsWed drawn = sea("><..........");
    drawn.island(ISLAND, 9, 0);
    drawn.island(ISLAND, 1, 1);
    drawn.wed(0, 1);
    drawn.anchor(0, true);
    due(drawn.day(), 0);
    due(drawn.about(0, 2), 11);
    due(drawn.about(1, 2), 0);
    promise14Parties();
  }

  private static void promise14Parties() {
    for (int ahead = 0; ahead < 2; ahead++) {
      IslandsWed x = sea(STILL);
      x.island(SAIL, 1, 5);
      x.island(SAIL, 1, ahead == 1 ? 7 : 4);
      x.island(SAIL, 1, 6);
      x.wed(0, 2);
      x.wind(1);
      due(x.day(), ahead);
      due(x.about(0, 2), 6 - ahead);
      due(x.about(2, 2), 7 - ahead);
      due(x.about(1, 2), ahead == 1 ? 8 : 5);
    }
    IslandsWed tidal = sea(ON);
    tidal.island(TIDAL, 1, 4);
    tidal.island(ROCK, 9, 8);
    int[] places = {3, 4, 3, 4};
    for (int place : places) {
      due(tidal.day(), 0);
      due(tidal.about(0, 2), place);
      due(tidal.about(1, 2), 8);
    }
    IslandsWed berg = sea("<<<<<<<<<<<<");
    berg.island(BERG, 1, 4);
    berg.island(SAIL, 1, 8);
    berg.wind(1);
    due(berg.day(), 0);
    due(berg.about(0, 2), 5);
    due(berg.about(1, 2), 8);
  }

  /** Two that are roped, and a berg right behind a gap, that meets the first of them very late. */
  private static IslandsWed late(String text, int size, int place, int bergSize, int bergPlace) {
    IslandsWed x = sea(text);
    x.wind(1);
    x.island(TIDAL, size, place);
    x.island(BERG, size, (place + 1) % 12);
    x.island(BERG, bergSize, bergPlace);
    x.wed(0, 1);
    return x;
  }

  private static void promise15() {
    promise = 15;
    IslandsWed x = sea(ON);
    x.island(ISLAND, 1, 0);
    x.island(ISLAND, 1, 3);
    x.island(ROCK, 1, 7);
    due(x.meet(0, 1), 5);
    due(x.meet(1, 0), 5);
    due(x.meet(1, 2), 3);
    due(x.meet(0, 2), NONE);
    x.anchor(1, true);
    due(x.meet(0, 1), 2);
    due(x.count(5), 0);
    due(x.about(0, 2), 0);
    due(x.count(6), 0);
    x.day();
    x.day();
    due(x.meet(0, 1), 0);
    due(x.meet(0, 0), UNKNOWN);
    due(x.meet(0, 3), UNKNOWN);
    due(x.meet(-1, 0), UNKNOWN);
    due(x.meet(MIN, MAX), UNKNOWN);
    due(late("<.<...<<><>.", 5, 2, 9, 5).meet(0, 2), 60);
    IslandsWed later = late(">.<>><<>><<<", 7, 11, 8, 2);
    due(later.meet(0, 2), NONE);
    later.day();
    due(later.meet(0, 2), 60);
  }

  private static void promise16() {
    promise = 16;
    IslandsWed x = sea(ON);
    x.island(ISLAND, 1, 0);
    x.island(ISLAND, 1, 3);
    due(x.anchors(0, 1, 30, 0), 1);
    due(x.anchors(0, 1, 30, 1), 1);
    due(x.anchors(0, 1, 8, 1), 1);
    due(x.anchors(1, 0, 7, 1), 2);
    due(x.anchors(0, 1, 2, 1), 2);
    due(x.anchors(0, 1, 2, 0), 1);
    due(x.anchors(0, 1, 1, 0), NONE);
    due(x.anchors(0, 1, 0, 1), NONE);
    due(x.count(11), 8);
    due(x.about(0, 4) + x.about(1, 4), 0);
    x.anchor(1, true);
    due(x.anchors(0, 1, 2, 0), 0);
    due(x.anchors(0, 1, 2, 1), 0);
    for (int days : new int[] {-1, 31, MIN, MAX}) due(x.anchors(0, 1, days, 0), OUTSIDE);
    for (int what : new int[] {-1, 2, MIN, MAX}) due(x.anchors(0, 1, 0, what), OUTSIDE);
    due(x.anchors(0, 0, 31, 0), UNKNOWN);
    due(x.anchors(0, 2, 31, 0), UNKNOWN);
    due(x.anchors(-1, 0, 31, 0), UNKNOWN);
    due(x.count(11), 10);
    promise16Parties();
    promise16Often();
  }

  private static void promise16Parties() {
    IslandsWed x = sea(ON);
    x.island(ISLAND, 1, 0);
    x.island(ISLAND, 1, 3);
    x.island(ISLAND, 1, 11);
    x.wed(0, 2);
    due(x.anchors(1, 2, 7, 0), 2);
    due(x.anchors(1, 2, 7, 1), 5);
    due(x.anchors(1, 2, 6, 1), NONE);
    x.anchor(0, true);
    due(x.anchors(1, 2, 7, 0), 1);
    due(x.anchors(1, 2, 7, 1), 4);
    IslandsWed fewer = sea(ON);
    int[] places = {7, 8, 3, 5};
    for (int place : places) fewer.island(ISLAND, 1, place);
    fewer.wed(0, 1);
    due(fewer.anchors(2, 3, 30, 1), 8);
    due(fewer.anchors(2, 3, 30, 0), 1);
    fewer.anchor(0, true);
    due(fewer.anchors(2, 3, 30, 1), 2);
    IslandsWed edge = late("<.<...<<><>.", 5, 2, 9, 5);
    for (int d = 0; d < 30; d++) edge.day();
    due(edge.anchors(0, 2, 30, 1), 0);
    due(edge.anchors(0, 2, 30, 0), 0);
    edge.day();
    due(edge.anchors(0, 2, 29, 1), 0);
  }

  private static void promise16Often() {
    IslandsWed x = sea(STILL);
    x.island(ROCK, 1, 0);
    x.island(ROCK, 1, 1);
    x.island(ROCK, 1, 3);
    for (int i = 0; i < 30; i++) {
      due(x.anchors(0, 1 + i % 2, 3, 0), i % 2 == 0 ? 0 : NONE);
      due(x.anchors(0, 1, 31, 0), OUTSIDE);
      due(x.count(11), i + 1);
    }
    due(x.anchors(0, 1, 3, 0), STATE);
    due(x.anchors(0, 1, 31, 0), OUTSIDE);
    due(x.anchors(0, 3, 31, 0), UNKNOWN);
    due(x.count(11), 30);
  }

  private static void matches(IslandsWed x, int pairs, int... mates) {
    due(x.stable(0), 1);
    due(x.stable(1), pairs);
    for (int i = 0; i < 5; i++) due(x.stable(10 + i), mates[i]);
  }

  private static void promise17() {
    promise = 17;
    for (int what : new int[] {-1, 2, 9, 15, MIN, MAX}) {
      due(new IslandsWed().stable(what), OUTSIDE);
      due(sea(STILL).stable(what), OUTSIDE);
    }
    for (int what : new int[] {0, 1, 10, 14}) due(new IslandsWed().stable(what), STATE);
    matches(sea(STILL), 0, NONE, NONE, NONE, NONE, NONE);
    IslandsWed row = sea(STILL);
    int[] sizes = {1, 5, 5, 1, 9};
    for (int i = 0; i < 5; i++) row.island(ROCK, sizes[i], i);
    matches(row, 2, NONE, 2, 1, 4, 3);
    IslandsWed like = sea(STILL);
    for (int i = 0; i < 3; i++) like.island(ROCK, 5, i);
    matches(like, 1, 1, 0, NONE, NONE, NONE);
    IslandsWed greater = sea(STILL);
    for (int i = 0; i < 3; i++) greater.island(ROCK, 5 + i, i);
    matches(greater, 1, NONE, 2, 1, NONE, NONE);
    IslandsWed apart = sea(STILL);
    for (int i = 0; i < 3; i++) apart.island(ROCK, 5, 2 * i);
    matches(apart, 0, NONE, NONE, NONE, NONE, NONE);
    IslandsWed crossed = sea(STILL);
    int[] places = {0, 5, 1, 6};
    for (int place : places) crossed.island(ROCK, 4, place);
    matches(crossed, 2, 2, 3, 0, 1, NONE);
    IslandsWed parted = sea("........<...");
    parted.island(ROCK, 1, 5);
    parted.island(SAIL, 1, 6);
    parted.wind(1);
    matches(parted, 1, 1, 0, NONE, NONE, NONE);
    parted.day();
    matches(parted, 0, NONE, NONE, NONE, NONE, NONE);
    IslandsWed edge = late("<.<...<<><>.", 5, 2, 9, 5);
    for (int d = 0; d < 29; d++) edge.day();
    due(edge.meet(0, 2), 31);
    matches(edge, 1, 1, 0, NONE, NONE, NONE);
    edge.day();
    due(edge.meet(0, 2), 30);
    matches(edge, 1, 2, NONE, 0, NONE, NONE);
  }

  private static void promise18() {
    promise = 18;
    IslandsWed x = sea(STILL);
    for (int i = 0; i < 5; i++) x.island(ROCK, 1, i);
    due(x.parting(0, 1), STATE);
    for (int i = 0; i < 4; i++) x.wed(i, i + 1);
    due(x.parting(0, 1), 1);
    due(x.parting(4, 0), 1);
    x.axe(2, 3);
    due(x.parting(4, 0), STATE);
    due(x.parting(2, 0), 1);
    due(x.count(3), 3);
    due(x.parting(0, 0), UNKNOWN);
    due(x.parting(0, 5), UNKNOWN);
    due(x.parting(-1, 0), UNKNOWN);
    due(x.parting(MIN, MAX), UNKNOWN);
  }

  private static void promise19() {
    promise = 19;
    IslandsWed x = sea(STILL);
    x.island(ROCK, 1, 0);
    x.island(ROCK, 1, 5);
    for (int day : new int[] {-1, 21, MIN, MAX}) {
      due(x.shell(0, 1, day, true), OUTSIDE);
      due(x.shell(0, 0, day, true), UNKNOWN);
      due(x.shell(0, 2, day, true), UNKNOWN);
      due(x.shell(-1, 0, day, true), UNKNOWN);
    }
    due(x.shell(0, 1, 0, true), 1);
    due(x.shell(1, 0, 20, false), 2);
    for (int i = 3; i <= 8; i++) due(x.shell(0, 1, i, i % 2 == 0), i);
    due(x.shell(0, 1, 0, true), FULL);
    due(x.shell(0, 1, 21, true), OUTSIDE);
    due(x.shell(0, 2, 0, true), UNKNOWN);
    due(x.count(8), 8);
    due(new IslandsWed().shell(0, 1, 0, true), UNKNOWN);
  }

  private static void promise20() {
    promise = 20;
    IslandsWed x = sea(STILL);
    x.island(ROCK, 1, 0);
    x.island(ROCK, 1, 5);
    due(x.forget(), 0);
    for (int i = 0; i < 8; i++) x.shell(0, 1, 0, i % 2 == 0);
    due(x.guess(0, 0), 0);
    due(x.forget(), 8);
    due(x.forget(), 0);
    due(x.guess(0, 0), 33);
    due(x.shell(0, 1, 0, true), 1);
  }

  private static void promise21() {
    promise = 21;
    IslandsWed x = sea(STILL);
    x.island(ROCK, 1, 0);
    x.island(ROCK, 1, 5);
    due(x.guess(0, 0), 33);
    due(x.guess(0, 1), 0);
    due(x.guess(1, 1), 3);
    x.shell(0, 1, 0, true);
    due(x.guess(0, 0), 6);
    due(x.guess(0, 1), 12);
    due(x.guess(1, 0), 6);
    due(x.guess(1, 1), 3);
    x.shell(0, 1, 20, false);
    due(x.guess(0, 0), 0);
    due(x.guess(0, 1), NONE);
    for (int what : new int[] {-1, 2, MIN, MAX}) {
      due(x.guess(0, what), OUTSIDE);
      due(x.guess(2, what), UNKNOWN);
    }
    due(x.guess(-1, 0), UNKNOWN);
    IslandsWed sail = sea(STILL);
    sail.island(SAIL, 1, 0);
    sail.island(ROCK, 1, 5);
    sail.shell(0, 1, 0, false);
    sail.shell(0, 1, 1, true);
    due(sail.guess(0, 0), 2);
    due(sail.guess(0, 1), 11);
    due(sail.about(0, 2), 0);
    due(sail.count(7), 1);
    due(sail.count(5), 0);
    // Days of shells are told from the day on which it is guessed.
    sail.day();
    due(sail.guess(0, 0), 2);
    due(sail.guess(0, 1), 11);
    sail.forget();
    sail.shell(0, 1, 20, true);
    due(sail.guess(0, 0), 22 + 2);
    due(sail.guess(0, 1), 0);
    IslandsWed three = sea(STILL);
    three.island(ROCK, 1, 0);
    three.island(ROCK, 1, 5);
    three.island(ROCK, 1, 9);
    three.shell(1, 2, 0, true);
    due(three.guess(0, 0), 0);
    due(three.guess(1, 0), 6);
    due(three.guess(1, 1), 24);
    due(three.guess(2, 1), 12);
  }

  private static long nextSeed(long seed) {
    return (1103515245L * seed + 12345L) % (1L << 31);
  }

  private static void promise22() {
    promise = 22;
    IslandsWed x = sea(STILL);
    x.island(SAIL, 1, 0);
    x.island(ROCK, 1, 2);
    due(x.seasons(1, 0, 2), 12345);
    due(x.seasons(1, 1, 2), 1103527590);
    due(x.seasons(1, 1, 0), 0);
    due(x.seasons(1, 1, 1), 1);
    due(x.seasons(1, 0, 1), 0);
    x.island(ROCK, 1, 10);
    due(x.seasons(1, 0, 1), 1);
    due(x.seasons(1, 1, 1), 1);
    long seed = MAX;
    for (int days = 1; days <= 60; days++) {
      seed = nextSeed(seed);
      due(x.seasons(days, MAX, 2), seed);
    }
    due(x.about(0, 2), 0);
    counts(x, 12, 0, 3, 0, 3, 0, 0, 1, 0, 0, 1, 0);
    IslandsWed near = sea(STILL);
    near.island(SAIL, 1, 0);
    near.island(ROCK, 1, 1);
    due(near.seasons(1, 1, 0), 1);
    due(near.seasons(1, 0, 0), 0);
    due(near.seasons(1, 1, 1), 1);
    near.wind(1);
    near.day();
    due(near.count(6), 1);
    due(near.seasons(1, 1, 0), 1);
    due(near.seasons(1, 0, 0), 0);
    for (int days : new int[] {0, 61, -1, MIN, MAX}) due(near.seasons(days, 0, 0), OUTSIDE);
    for (int bad : new int[] {-1, MIN}) due(near.seasons(1, bad, 0), OUTSIDE);
    for (int what : new int[] {-1, 3, MIN, MAX}) {
      due(near.seasons(1, 0, what), OUTSIDE);
      due(new IslandsWed().seasons(1, 0, what), OUTSIDE);
    }
    due(new IslandsWed().seasons(1, 0, 0), STATE);
  }

  private static void promise23() {
    promise = 23;
    due(new IslandsWed().image(), STATE);
    IslandsWed x = sea(ON);
    x.island(ISLAND, 1, 0);
    due(x.image(), 0);
    x.day();
    x.day();
    due(x.image(), 2);
    x.day();
    due(x.restore(), 2);
    due(x.about(0, 2), 2);
    due(x.count(5), 2);
  }

  private static void promise24() {
    promise = 24;
    IslandsWed x = sea("><..........");
    due(x.restore(), STATE);
    x.island(ISLAND, 4, 0);
    x.island(SAIL, 3, 1);
    x.day();
    x.wed(0, 1);
    x.anchor(1, true);
    x.wind(1);
    x.shell(0, 1, 2, true);
    due(x.image(), 1);
    long before = x.digest();
    int guessed = x.guess(0, 0);
    x.axe(0, 1);
    x.island(BERG, 9, 5);
    x.island(ROCK, 9, 6);
    x.wed(2, 3);
    x.anchor(2, true);
    x.anchor(1, false);
    x.wind(-1);
    x.forget();
    x.shell(2, 3, 0, false);
    x.shell(2, 0, 0, false);
    for (int d = 0; d < 5; d++) x.day();
    due(x.restore(), 1);
    due(x.digest(), before);
    due(x.guess(0, 0), guessed);
    due(x.about(2, 0), UNKNOWN);
    due(x.island(ISLAND, 2, 7), 2);
    due(x.about(2, 0), ISLAND);
    due(x.about(2, 1), 2);
    due(x.about(2, 4), 0);
    due(x.about(2, 5), 4);
    due(x.about(2, 7), 0);
    x.anchors(0, 1, 0, 0);
    x.letter('>');
    due(x.restore(), 1);
    due(x.count(11), 1);
    due(x.count(9), 1);
    x.blank();
    due(x.digest() == before ? 1 : 0, 0);
    write(x, "><..........").sea();
    due(x.restore(), STATE);
    due(x.image(), 0);
    due(x.restore(), 0);
    promise24Shells();
  }

  private static void promise24Shells() {
    IslandsWed x = sea(STILL);
    x.island(SAIL, 1, 0);
    x.island(ROCK, 1, 5);
    x.island(ROCK, 1, 1);
    x.shell(0, 1, 1, true);
    x.shell(1, 0, 0, false);
    int many = x.guess(0, 0);
    x.image();
    due(x.wed(0, 2), 1);
    x.forget();
    x.shell(2, 1, 7, false);
    x.shell(2, 1, 8, true);
    due(x.guess(0, 0) == many ? 1 : 0, 0);
    due(x.restore(), 0);
    due(x.count(3), 0);
    due(x.count(8), 2);
    due(many, 2);
    due(x.guess(0, 0), 2);
    due(x.guess(0, 1), 11);
  }

  private static void promise25() {
    promise = 25;
    IslandsWed x = sea("><>.........");
    x.island(ISLAND, 1, 0);
    x.island(ISLAND, 1, 1);
    x.island(SAIL, 1, 5);
    x.day();
    x.day();
    x.wed(0, 1);
    x.wind(1);
    x.shell(0, 1, 0, true);
    x.shell(0, 2, 0, true);
    write(x, "...");
    x.anchors(0, 1, 0, 0);
    counts(x, 12, 3, 3, 1, 2, 2, 4, 2, 2, 3, 1, 1);
    x.wind(-1);
    due(x.count(7), 0);
    for (int what : new int[] {-1, 12, MIN, MAX}) {
      due(x.count(what), OUTSIDE);
      due(new IslandsWed().count(what), OUTSIDE);
    }
  }

  private static long digested(IslandsWed x, String page) {
    List<Integer> all = new ArrayList<>();
    boolean hasSea = x.count(0) == 12;
    for (int place = 0; hasSea && place < 12; place++) { all.add(x.place(place, 0)); all.add(x.place(place, 1)); }
    for (int i = 0; i < x.count(2); i++) {
      for (int what = 0; what < 8; what++) all.add(x.about(i, what));
      for (int j = 0; j < x.count(2); j++) if (j != i) all.add(x.meet(i, j));
    }
    for (int what : new int[] {0, 1, 10, 11, 12, 13, 14}) if (hasSea) all.add(x.stable(what));
    for (char c : page.toCharArray()) all.add((int) c);
    for (int what = 0; what < 12; what++) all.add(x.count(what));
    long h = 857;
    for (int number : all) h = 31 * h + number;
    return h;
  }

  private static void promise26() {
    promise = 26;
    IslandsWed x = new IslandsWed();
    due(x.digest(), digested(x, ""));
    write(x, "a~");
    due(x.digest(), digested(x, "a~"));
    // Each object anew, as an object answers for 512 calls only.
    for (int islands = 0; islands <= 5; islands++) due(drifted(islands, 0).digest(), digested(drifted(islands, 0), ""));
    due(drifted(5, 0).count(2), 5);
    for (int days = 1; days <= 12; days++) {
      IslandsWed y = drifted(5, days);
      due(y.digest(), digested(y, ""));
      due(y.digest(), y.digest());
    }
  }

  private static IslandsWed drifted(int islands, int days) {
    IslandsWed x = sea("><.>>.<<..>.");
    for (int kind = 0; kind < islands; kind++) {
      x.island(kind, 9 - kind, (3 * kind + 11) % 12 - kind / 4);
      x.wind(kind % 3 - 1);
    }
    for (int d = 0; d < days; d++) {
      x.day();
      for (int i = 0; i < 4; i++) x.wed(i, i + 1);
    }
    return x;
  }

  /** Refused calls change nothing. */
  private static void refusals() {
    promise = 0;
    IslandsWed x = sea("><..........");
    x.island(ISLAND, 1, 0);
    x.island(ISLAND, 1, 1);
    x.island(SAIL, 1, 5);
    x.wed(0, 1);
    x.shell(0, 1, 3, true);
    x.day();
    x.image();
    write(x, ".x");
    long before = x.digest();
    due(x.letter(0), OUTSIDE);
    due(x.sea(), STATE);
    due(x.wind(2), OUTSIDE);
    due(x.island(0, 0, 3), OUTSIDE);
    due(x.island(0, 1, x.about(0, 2)), STATE);
    due(x.anchor(3, true), UNKNOWN);
    due(x.wed(0, 1), STATE);
    due(x.wed(0, 2), STATE);
    due(x.axe(1, 2), STATE);
    due(x.anchors(0, 1, 31, 0), OUTSIDE);
    due(x.shell(0, 1, 21, true), OUTSIDE);
    due(x.seasons(61, 0, 0), OUTSIDE);
    due(x.digest(), before);
    due(x.guess(0, 7), OUTSIDE);
    due(x.restore(), 1);
    due(x.digest(), before);
  }
}
