/** Each refusal of each call: its answer on either side of its bound, which of several is told, and that nothing has changed. */
public final class RefusalTests extends Sentences {
  /** Numbers that name no island where there are three. */
  private static final int[] NO_ISLAND = {-1, 3, 4, 5, 32, 64, MIN, MAX};

  /** All is asked twice, as a refused call may neither spoil an image nor make one. */
  private static boolean imaged = true;

  public static void main(String[] args) {
    for (boolean is : new boolean[] {true, false}) {
      imaged = is;
      scenes();
      theSea();
      islands();
      ropes();
      whatWouldBe();
      shells();
      whatIsToldOfAll();
    }
    end(0, 2, 5, 6, 7, 8, 9, 10, 11, 12, 13, 14, 15, 16, 17, 18, 19, 21, 22, 23, 24, 25);
  }

  // ---- the objects that are asked

  /** Three islands, two of them roped, an anchor, a wind, days, bumps, shells, a page, and maybe an image unlike all that. */
  private static IslandsWed busy() {
    IslandsWed x = sea("><>.<..>.<>.");
    x.island(ISLAND, 3, 0);
    x.island(SAIL, 5, 1);
    x.island(TIDAL, 4, 4);
    x.day();
    x.shell(0, 1, 0, true);
    x.anchor(2, true);
    if (imaged) x.image();
    x.wed(1, 0);
    x.anchor(2, false);
    x.anchor(0, true);
    x.wind(1);
    x.shell(2, 1, 3, false);
    x.anchors(0, 2, 5, 1);
    x.day();
    return write(x, ".x");
  }

  private static IslandsWed fullOfIslands() {
    IslandsWed x = busy();
    x.island(BERG, 2, 2);
    x.island(BERG, 2, 3);
    return x;
  }

  private static IslandsWed fullOfShells() {
    IslandsWed x = busy();
    for (int day = 0; day < 6; day++) x.shell(0, 2, day, false);
    return x;
  }

  private static IslandsWed fullPage() {
    IslandsWed x = busy();
    return write(x, "><><><><><><");
  }

  private static IslandsWed anchorsAreDone() {
    IslandsWed x = busy();
    for (int i = 1; i < 30; i++) x.anchors(0, 1, 0, 0);
    return x;
  }

  /** With a sea, and nothing on it. */
  private static IslandsWed empty() {
    return sea("><..........");
  }

  private static void scenes() {
    of(0, "they change nothing", () -> {
      counts(busy(), 12, 7, 3, 1, 2, 2, 2, 2, 2, 2, 1, 1);
      places(busy(), 0, 1, 5);
      counts(fullOfIslands(), 12, 7, 5, 1, 4);
      due(fullOfShells().count(8), 8);
      due(fullPage().count(9), 14);
      due(anchorsAreDone().count(11), 30);
      due(busy().restore(), imaged ? 1 : STATE);
    });
  }

  // ---- the sea

  private static void theSea() {
    of(2, "OUTSIDE: code (1 to 126)", () -> {
      for (int code : new int[] {0, 127, -1, 128, 256 + '.', 65536 + '.', MIN, MAX}) {
        refused(OUTSIDE, IslandsWed::new, x -> x.letter(code));
        refused(OUTSIDE, RefusalTests::busy, x -> x.letter(code));
      }
    });
    of(2, "FULL: above 14", () -> {
      refused(FULL, () -> page(STILL + ".."), x -> x.letter('.'), x -> x.letter(1), x -> x.letter(126));
      refused(FULL, RefusalTests::fullPage, x -> x.letter('.'), x -> x.letter('x'));
    });
    of(2, "OUTSIDE: code (1 to 126); FULL: above 14", () ->
        refused(OUTSIDE, RefusalTests::fullPage, x -> x.letter(0), x -> x.letter(127), x -> x.letter(MIN), x -> x.letter(MAX)));
    of(5, "STATE: it is none", RefusalTests::noSea);
    of(6, "UNKNOWN (also without a SEA)", () -> {
      for (int place : new int[] {-1, 12, 13, 24, MIN, MAX}) {
        refused(UNKNOWN, RefusalTests::busy, x -> x.place(place, 0), x -> x.place(place, 1));
      }
      for (int place = 0; place < 12; place++) {
        int at = place;
        refused(UNKNOWN, IslandsWed::new, x -> x.place(at, 0), x -> x.place(at, 1));
        refused(UNKNOWN, () -> page(STILL), x -> x.place(at, 0), x -> x.place(at, 1));
      }
    });
    of(6, "UNKNOWN (also without a SEA); OUTSIDE", () -> {
      for (int what : new int[] {-1, 2, 3, MIN, MAX}) {
        refused(OUTSIDE, RefusalTests::busy, x -> x.place(0, what), x -> x.place(11, what));
        refused(UNKNOWN, RefusalTests::busy, x -> x.place(-1, what), x -> x.place(12, what));
        refused(UNKNOWN, IslandsWed::new, x -> x.place(0, what));
      }
    });
    of(7, "OUTSIDE: wind (-1 to 1)", () -> {
      for (int wind : new int[] {-2, 2, 3, MIN, MAX}) refused(OUTSIDE, RefusalTests::busy, x -> x.wind(wind));
    });
    of(7, "STATE: no SEA", () -> {
      for (int wind = -1; wind <= 1; wind++) {
        int so = wind;
        refused(STATE, IslandsWed::new, x -> x.wind(so));
        refused(STATE, () -> page(STILL), x -> x.wind(so));
      }
    });
    of(7, "OUTSIDE: wind (-1 to 1); STATE: no SEA", () ->
        refused(OUTSIDE, IslandsWed::new, x -> x.wind(-2), x -> x.wind(2), x -> x.wind(MIN), x -> x.wind(MAX)));
  }

  /** Too short, too long, or a sign that no sea has, at each place; a sea that was read before stays. */
  private static void noSea() {
    refused(STATE, IslandsWed::new, IslandsWed::sea);
    for (int letters = 0; letters <= 14; letters++) {
      String text = "><.><.><.><.><".substring(0, letters);
      if (letters == 12) continue;
      refused(STATE, () -> page(text), IslandsWed::sea);
      refused(STATE, () -> rewritten(text), IslandsWed::sea);
    }
    for (int place = 0; place < 12; place++) {
      for (char sign : new char[] {'x', '-', '/', ';', '=', '?', ' ', 1, 126}) {
        String text = STILL.substring(0, place) + sign + STILL.substring(place + 1);
        refused(STATE, () -> page(text), IslandsWed::sea);
      }
      String text = STILL.substring(0, place) + "x" + STILL.substring(place + 1);
      refused(STATE, () -> rewritten(text), IslandsWed::sea);
    }
  }

  private static IslandsWed rewritten(String text) {
    IslandsWed x = busy();
    x.blank();
    return write(x, text);
  }

  // ---- islands

  private static void islands() {
    of(8, "OUTSIDE: kind, size", () -> {
      for (int kind : new int[] {-1, 5, 6, MIN, MAX}) {
        refused(OUTSIDE, RefusalTests::busy, x -> x.island(kind, 1, 7), x -> x.island(kind, 9, 7));
      }
      for (int size : new int[] {0, 10, -1, 11, MIN, MAX}) {
        refused(OUTSIDE, RefusalTests::busy, x -> x.island(ISLAND, size, 7), x -> x.island(BERG, size, 7));
      }
    });
    of(8, "UNKNOWN: place", () -> {
      for (int place : new int[] {-1, 12, 13, 24, MIN, MAX}) refused(UNKNOWN, RefusalTests::busy, x -> x.island(SAIL, 5, place));
      refused(UNKNOWN, IslandsWed::new, x -> x.island(SAIL, 5, 0), x -> x.island(SAIL, 5, 11));
      refused(UNKNOWN, () -> page(STILL), x -> x.island(SAIL, 5, 0), x -> x.island(SAIL, 5, 11));
    });
    of(8, "STATE: another one is there", () -> {
      refused(STATE, RefusalTests::busy, x -> x.island(SAIL, 5, 0), x -> x.island(SAIL, 5, 1), x -> x.island(SAIL, 5, 5));
      refused(STATE, () -> still(ROCK, 11), x -> x.island(ROCK, 1, 11));
    });
    of(8, "STATE: another one is there; FULL", () -> {
      refused(FULL, RefusalTests::fullOfIslands, x -> x.island(ISLAND, 1, 11), x -> x.island(BERG, 9, 8));
      for (int island = 0; island < 5; island++) {
        int other = island;
        refused(STATE, RefusalTests::fullOfIslands, x -> x.island(ROCK, 1, x.about(other, 2)));
      }
    });
    of(8, "OUTSIDE: kind, size; UNKNOWN: place; STATE: another one is there; FULL", () -> {
      for (int kind : new int[] {-1, 5}) {
        refused(OUTSIDE, IslandsWed::new, x -> x.island(kind, 1, 0));
        refused(OUTSIDE, RefusalTests::busy, x -> x.island(kind, 1, 12), x -> x.island(kind, 1, 0), x -> x.island(kind, 0, -1));
        refused(OUTSIDE, RefusalTests::fullOfIslands, x -> x.island(kind, 1, 11), x -> x.island(kind, 1, 0), x -> x.island(kind, 1, 12));
      }
      for (int size : new int[] {0, 10}) {
        refused(OUTSIDE, IslandsWed::new, x -> x.island(ROCK, size, 0));
        refused(OUTSIDE, RefusalTests::busy, x -> x.island(ROCK, size, 12), x -> x.island(ROCK, size, 0), x -> x.island(ROCK, size, -1));
        refused(OUTSIDE, RefusalTests::fullOfIslands, x -> x.island(ROCK, size, 11), x -> x.island(ROCK, size, 0), x -> x.island(ROCK, size, 12));
      }
      refused(UNKNOWN, RefusalTests::fullOfIslands, x -> x.island(ROCK, 1, -1), x -> x.island(ROCK, 1, 12));
    });
    of(9, "UNKNOWN; OUTSIDE", () -> {
      for (int what : new int[] {-1, 8, 9, MIN, MAX}) {
        refused(OUTSIDE, RefusalTests::busy, x -> x.about(0, what), x -> x.about(2, what));
        refused(UNKNOWN, RefusalTests::busy, x -> x.about(-1, what), x -> x.about(3, what));
      }
      for (int island : NO_ISLAND) refused(UNKNOWN, RefusalTests::busy, x -> x.about(island, 0), x -> x.about(island, 7));
      noneThere(x -> x.about(0, 0), x -> x.about(0, 7));
      refused(UNKNOWN, RefusalTests::fullOfIslands, x -> x.about(5, 0), x -> x.about(-1, 0));
    });
    of(10, "UNKNOWN; OUTSIDE", () -> {
      for (int kind : new int[] {-1, 5, 6, MIN, MAX}) {
        refused(OUTSIDE, RefusalTests::busy, x -> x.as(0, kind), x -> x.as(2, kind));
        refused(UNKNOWN, RefusalTests::busy, x -> x.as(-1, kind), x -> x.as(3, kind));
      }
      for (int island : NO_ISLAND) refused(UNKNOWN, RefusalTests::busy, x -> x.as(island, 0), x -> x.as(island, 4));
      noneThere(x -> x.as(0, 0));
      refused(UNKNOWN, RefusalTests::fullOfIslands, x -> x.as(5, 0), x -> x.as(-1, 0));
    });
    of(11, "UNKNOWN", () -> {
      for (int island : NO_ISLAND) refused(UNKNOWN, RefusalTests::busy, x -> x.anchor(island, true), x -> x.anchor(island, false));
      noneThere(x -> x.anchor(0, true), x -> x.anchor(0, false));
      refused(UNKNOWN, RefusalTests::fullOfIslands, x -> x.anchor(5, true), x -> x.anchor(-1, true));
    });
  }

  /** No island is there: without a sea, with a page that could be one, and on an empty sea. */
  private static void noneThere(Call... calls) {
    refused(UNKNOWN, IslandsWed::new, calls);
    refused(UNKNOWN, () -> page(STILL), calls);
    refused(UNKNOWN, RefusalTests::empty, calls);
  }

  // ---- ropes and days

  interface Pair { long on(IslandsWed x, int a, int b); }

  /** A number that names nothing, on either side; the same twice; nobody there; all five there. */
  private static void noTwo(Scene scene, Pair pair) {
    for (int none : NO_ISLAND) {
      refused(UNKNOWN, scene, x -> pair.on(x, none, 0), x -> pair.on(x, 2, none), x -> pair.on(x, none, none));
    }
    refused(UNKNOWN, scene, x -> pair.on(x, 0, 0), x -> pair.on(x, 1, 1), x -> pair.on(x, 2, 2));
  }

  private static void noTwo(Pair pair) {
    noTwo(RefusalTests::busy, pair);
    noneThere(x -> pair.on(x, 0, 0), x -> pair.on(x, 0, 1), x -> pair.on(x, 1, 0));
    refused(UNKNOWN, RefusalTests::fullOfIslands, x -> pair.on(x, 5, 4), x -> pair.on(x, 4, 5), x -> pair.on(x, -1, 4),
        x -> pair.on(x, 4, -1), x -> pair.on(x, 4, 4));
    refused(UNKNOWN, () -> still(ROCK, 3), x -> pair.on(x, 0, 0), x -> pair.on(x, 0, 1), x -> pair.on(x, 1, 0));
  }

  private static void ropes() {
    of(12, "UNKNOWN: a, b, or they are the same", () -> noTwo(IslandsWed::wed));
    of(12, "STATE: they are ROPED already, or not BESIDE each other", () -> {
      refused(STATE, RefusalTests::busy, x -> x.wed(0, 1), x -> x.wed(1, 0));
      refused(STATE, RefusalTests::busy, x -> x.wed(0, 2), x -> x.wed(2, 0), x -> x.wed(1, 2));
      for (int place = 2; place <= 10; place++) {
        int apart = place;
        refused(STATE, () -> still(ROCK, 0, apart), x -> x.wed(0, 1), x -> x.wed(1, 0));
      }
      refused(STATE, () -> still(ROCK, 11, 1), x -> x.wed(0, 1), x -> x.wed(1, 0));
      refused(STATE, () -> roped(11, 0), x -> x.wed(0, 1), x -> x.wed(1, 0));
    });
    of(13, "UNKNOWN: a, b, or they are the same", () -> noTwo(IslandsWed::axe));
    of(13, "STATE: they are not ROPED", () -> {
      refused(STATE, RefusalTests::busy, x -> x.axe(0, 2), x -> x.axe(2, 1));
      refused(STATE, () -> still(ROCK, 0, 1), x -> x.axe(0, 1), x -> x.axe(1, 0));
      refused(STATE, () -> roped(4, 5, 6), x -> x.axe(0, 2), x -> x.axe(2, 0));
      refused(STATE, () -> axed(0, 1), x -> x.axe(0, 1), x -> x.axe(1, 0));
    });
    of(14, "STATE: no SEA", () -> {
      refused(STATE, IslandsWed::new, IslandsWed::day);
      refused(STATE, () -> page(STILL), IslandsWed::day);
    });
  }

  /** Rocks side by side, each roped to the next one. */
  private static IslandsWed roped(int... places) {
    IslandsWed x = still(ROCK, places);
    for (int island = 1; island < places.length; island++) x.wed(island - 1, island);
    return x;
  }

  private static IslandsWed axed(int... places) {
    IslandsWed x = roped(places);
    x.axe(0, 1);
    return x;
  }

  // ---- what would be

  private static void whatWouldBe() {
    of(15, "UNKNOWN: a, b, or they are the same", () -> noTwo(IslandsWed::meet));
    of(16, "UNKNOWN: a, b, or they are the same", () -> {
      noTwo((x, a, b) -> x.anchors(a, b, 0, 0));
      noTwo((x, a, b) -> x.anchors(a, b, 30, 1));
    });
    of(16, "OUTSIDE: days, what", () -> {
      for (int days : new int[] {-1, 31, 60, MIN, MAX}) {
        refused(OUTSIDE, RefusalTests::busy, x -> x.anchors(0, 1, days, 0), x -> x.anchors(2, 0, days, 1));
      }
      for (int what : new int[] {-1, 2, 3, MIN, MAX}) {
        refused(OUTSIDE, RefusalTests::busy, x -> x.anchors(0, 1, 0, what), x -> x.anchors(2, 0, 30, what), x -> x.anchors(0, 1, 31, what));
      }
    });
    of(16, "STATE: anchors() was done 30 times", () -> refused(STATE, RefusalTests::anchorsAreDone,
        x -> x.anchors(0, 1, 0, 0), x -> x.anchors(0, 1, 30, 1), x -> x.anchors(2, 0, 1, 1)));
    of(16, "UNKNOWN: a, b, or they are the same; OUTSIDE: days, what; STATE: anchors() was done 30 times", () -> {
      for (int bad : new int[] {-1, 31}) {
        noTwo(RefusalTests::busy, (x, a, b) -> x.anchors(a, b, bad, 0));
        noTwo(RefusalTests::anchorsAreDone, (x, a, b) -> x.anchors(a, b, bad, 0));
        refused(OUTSIDE, RefusalTests::anchorsAreDone, x -> x.anchors(0, 1, bad, 0), x -> x.anchors(0, 1, 0, bad));
      }
      noTwo(RefusalTests::anchorsAreDone, (x, a, b) -> x.anchors(a, b, 0, 0));
      noTwo(RefusalTests::busy, (x, a, b) -> x.anchors(a, b, 0, 2));
    });
    of(17, "OUTSIDE; STATE: no SEA", () -> {
      for (int what : new int[] {-1, 2, 3, 9, 15, 16, MIN, MAX}) {
        refused(OUTSIDE, RefusalTests::busy, x -> x.stable(what));
        refused(OUTSIDE, RefusalTests::fullOfIslands, x -> x.stable(what));
        refused(OUTSIDE, IslandsWed::new, x -> x.stable(what));
      }
      for (int what : new int[] {0, 1, 10, 11, 12, 13, 14}) {
        refused(STATE, IslandsWed::new, x -> x.stable(what));
        refused(STATE, () -> page(STILL), x -> x.stable(what));
      }
    });
    of(18, "UNKNOWN: a, b, or they are the same", () -> noTwo(IslandsWed::parting));
    of(18, "STATE: they are not in one PARTY", () -> {
      refused(STATE, RefusalTests::busy, x -> x.parting(0, 2), x -> x.parting(2, 1));
      refused(STATE, () -> still(ROCK, 11, 0), x -> x.parting(0, 1), x -> x.parting(1, 0));
      refused(STATE, () -> axed(11, 0), x -> x.parting(0, 1), x -> x.parting(1, 0));
      refused(STATE, () -> axed(11, 0, 1), x -> x.parting(0, 1), x -> x.parting(2, 0));
    });
  }

  // ---- shells

  private static void shells() {
    of(19, "UNKNOWN: a, b, or they are the same", () -> {
      noTwo((x, a, b) -> x.shell(a, b, 0, true));
      noTwo((x, a, b) -> x.shell(a, b, 20, false));
    });
    of(19, "OUTSIDE: day (0 to 20)", () -> {
      for (int day : new int[] {-1, 21, 30, MIN, MAX}) {
        refused(OUTSIDE, RefusalTests::busy, x -> x.shell(0, 1, day, true), x -> x.shell(2, 0, day, false));
      }
    });
    of(19, "OUTSIDE: day (0 to 20); FULL", () -> {
      refused(FULL, RefusalTests::fullOfShells, x -> x.shell(0, 1, 0, false), x -> x.shell(2, 0, 20, true));
      for (int day : new int[] {-1, 21, MIN, MAX}) refused(OUTSIDE, RefusalTests::fullOfShells, x -> x.shell(0, 1, day, false));
    });
    of(19, "UNKNOWN: a, b, or they are the same; OUTSIDE: day (0 to 20); FULL", () -> {
      noTwo(RefusalTests::fullOfShells, (x, a, b) -> x.shell(a, b, 0, false));
      for (int day : new int[] {-1, 21}) {
        noTwo(RefusalTests::busy, (x, a, b) -> x.shell(a, b, day, true));
        noTwo(RefusalTests::fullOfShells, (x, a, b) -> x.shell(a, b, day, true));
      }
    });
    of(21, "UNKNOWN; OUTSIDE", () -> {
      for (int what : new int[] {-1, 2, 3, MIN, MAX}) {
        refused(OUTSIDE, RefusalTests::busy, x -> x.guess(0, what), x -> x.guess(2, what));
        refused(UNKNOWN, RefusalTests::busy, x -> x.guess(-1, what), x -> x.guess(3, what));
      }
      for (int island : NO_ISLAND) refused(UNKNOWN, RefusalTests::busy, x -> x.guess(island, 0), x -> x.guess(island, 1));
      noneThere(x -> x.guess(0, 0), x -> x.guess(0, 1));
      refused(UNKNOWN, RefusalTests::fullOfIslands, x -> x.guess(5, 0), x -> x.guess(-1, 1));
    });
    of(22, "OUTSIDE: days (1 to 60), seed (0 at least), what", () -> {
      for (int days : new int[] {0, 61, -1, 62, MIN, MAX}) refused(OUTSIDE, RefusalTests::busy, x -> x.seasons(days, 0, 0), x -> x.seasons(days, 7, 2));
      for (int seed : new int[] {-1, -2, MIN}) refused(OUTSIDE, RefusalTests::busy, x -> x.seasons(1, seed, 0), x -> x.seasons(60, seed, 2));
      for (int what : new int[] {-1, 3, 4, MIN, MAX}) refused(OUTSIDE, RefusalTests::busy, x -> x.seasons(1, 0, what), x -> x.seasons(60, 7, what));
    });
    of(22, "OUTSIDE: days (1 to 60), seed (0 at least), what; STATE: no SEA", () -> {
      refused(STATE, IslandsWed::new, x -> x.seasons(1, 0, 0), x -> x.seasons(60, MAX, 1), x -> x.seasons(1, 0, 2));
      refused(STATE, () -> page(STILL), x -> x.seasons(1, 0, 0));
      refused(OUTSIDE, IslandsWed::new, x -> x.seasons(0, 0, 0), x -> x.seasons(61, 0, 0), x -> x.seasons(1, -1, 0),
          x -> x.seasons(1, 0, -1), x -> x.seasons(1, 0, 3));
    });
  }

  // ---- what is told of all

  private static void whatIsToldOfAll() {
    of(23, "STATE: no SEA", () -> {
      refused(STATE, IslandsWed::new, IslandsWed::image);
      refused(STATE, () -> page(STILL), IslandsWed::image);
      IslandsWed late = page("><..........");
      due(late.image(), STATE);
      due(late.sea(), 2);
      due(late.restore(), STATE);
    });
    of(24, "STATE: none was kept, or there is another SEA since", () -> {
      refused(STATE, IslandsWed::new, IslandsWed::restore);
      refused(STATE, () -> page(STILL), IslandsWed::restore);
      refused(STATE, RefusalTests::empty, IslandsWed::restore);
      refused(STATE, () -> roped(11, 0, 1), IslandsWed::restore);
      if (!imaged) refused(STATE, RefusalTests::busy, IslandsWed::restore);
      refused(STATE, () -> anotherSea("<<.........."), IslandsWed::restore);
      refused(STATE, () -> anotherSea("><>.<..>.<>."), IslandsWed::restore);
    });
    of(25, "OUTSIDE", () -> {
      for (int what : new int[] {-1, 12, 13, MIN, MAX}) {
        refused(OUTSIDE, RefusalTests::busy, x -> x.count(what));
        refused(OUTSIDE, IslandsWed::new, x -> x.count(what));
      }
    });
  }

  /** An image was kept, but of the sea before; also if the text of both is the same. */
  private static IslandsWed anotherSea(String text) {
    IslandsWed x = busy();
    x.blank();
    write(x, text).sea();
    x.island(SAIL, 2, 6);
    x.island(SAIL, 2, 7);
    x.wed(0, 1);
    x.shell(0, 1, 2, true);
    return x;
  }
}
