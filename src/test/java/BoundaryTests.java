import java.math.BigInteger;
import java.util.ArrayList;
import java.util.List;

/** Each bound that the document names: the last that is taken, nothing there and full, and the ring from 11 to 0 and back. */
public final class BoundaryTests extends Sentences {
  public static void main(String[] args) {
    theObject();
    thePage();
    theSea();
    theRing();
    theWind();
    theIslands();
    thePush();
    theRopes();
    theDay();
    meetings();
    anchored();
    matched();
    theShells();
    guesses();
    theSeasons();
    images();
    counted();
    digests();
    end(0, 1, 2, 3, 4, 5, 6, 7, 8, 9, 10, 11, 12, 13, 14, 15, 16, 17, 18, 19, 20, 21, 22, 23, 24, 25, 26);
  }

  // ---- the object

  private static void theObject() {
    of(1, "No SEA.", () -> {
      counts(new IslandsWed(), 0, 0, 0, 0, 0, 0, 0, 1, 0, 0, 0, 0);
      due(new IslandsWed().place(0, 0), UNKNOWN);
      due(new IslandsWed().blank(), 0);
      due(new IslandsWed().fault(), 0);
      due(new IslandsWed().forget(), 0);
    });
    of(0, "at most 512 calls", () -> {
      IslandsWed bumping = with(ON, ISLAND, 0);
      bumping.island(ROCK, 1, 1);
      for (int d = 1; d <= 496; d++) due(bumping.day(), 1);
      due(bumping.count(6), 496);
      IslandsWed drifting = with(ON, ISLAND, 0);
      for (int d = 1; d <= 497; d++) drifting.day();
      due(drifting.about(0, 2), 497 % 12);
      IslandsWed seas = new IslandsWed();
      for (int sea = 1; sea <= 39; sea++) due(write(seas, STILL).sea(), 0);
      due(seas.count(10), 39);
      IslandsWed turned = sea(STILL);
      for (int call = 14; call <= 511; call++) turned.wind(call % 3 - 1);
      due(turned.count(7), 511 % 3);
    });
  }

  // ---- the page

  private static void thePage() {
    of(2, "code (1 to 126)", () -> {
      for (int code = 1; code <= 126; code++) due(new IslandsWed().letter(code), 1);
      due(new IslandsWed().letter(0), OUTSIDE);
      due(new IslandsWed().letter(127), OUTSIDE);
    });
    of(2, "FULL: above 14", () -> {
      IslandsWed x = new IslandsWed();
      for (int many = 1; many <= 14; many++) due(x.letter('a' + many), many);
      due(x.letter('a'), FULL);
      due(x.blank(), 14);
      for (int many = 1; many <= 14; many++) due(x.letter('a' + many), many);
      due(x.letter('a'), FULL);
    });
    of(3, "THE PAGE is empty: how many letters it had.", () -> {
      due(new IslandsWed().blank(), 0);
      due(page(".").blank(), 1);
      due(page(STILL + "..").blank(), 14);
      IslandsWed x = page(STILL + "x");
      x.blank();
      due(x.count(9), 0);
      due(x.fault(), 0);
      due(x.blank(), 0);
      due(write(x, STILL).sea(), 0);
      due(x.blank(), 0);
    });
    of(4, "the first letter of THE PAGE that no SEA has there", () -> {
      for (int place = 0; place < 14; place++) {
        String ahead = "><.><.><.><.><".substring(0, place);
        due(page(ahead + "x").fault(), Math.min(place, 12));
        due(page(ahead + "xx").fault(), Math.min(place, 12));
      }
      due(page("......x..x..").fault(), 6);
      due(page(STILL + ".").fault(), 12);
      due(page(STILL + "..").fault(), 12);
      due(page(STILL + "x").fault(), 12);
      due(page(STILL + ".x").fault(), 12);
      due(page(STILL.substring(1) + "x.").fault(), 11);
    });
    of(4, "behind those ahead of it", () -> {
      for (int code = 1; code <= 126; code++) {
        boolean sign = code == '>' || code == '<' || code == '.';
        for (int ahead = 0; ahead <= 12; ahead++) {
          IslandsWed x = page(STILL.substring(0, ahead));
          x.letter(code);
          due(x.fault(), sign && ahead < 12 ? ahead + 1 : ahead);
        }
      }
    });
    of(4, "how many letters it has, if there is none.", () -> {
      for (int letters = 0; letters <= 12; letters++) {
        IslandsWed x = page("><.><.><.><.".substring(0, letters));
        due(x.fault(), letters);
        due(x.fault(), letters);
        due(x.count(9), letters);
      }
    });
  }

  // ---- the sea

  private static void theSea() {
    of(5, "on how many PLACES there is a CURRENT", () -> {
      due(page(STILL).sea(), 0);
      due(page(ON).sea(), 12);
      due(page(BACK).sea(), 12);
      due(page("...........<").sea(), 1);
      due(page(">...........").sea(), 1);
    });
    of(5, "THE PAGE is empty then.", () -> {
      IslandsWed x = sea(ON);
      due(x.count(9), 0);
      due(x.fault(), 0);
      due(x.sea(), STATE);
      due(x.blank(), 0);
      for (int many = 1; many <= 14; many++) due(x.letter('.'), many);
    });
    of(5, "another one is gone, with all that was; WIND 0, DAY 0", BoundaryTests::anotherSea);
    of(0, "twelve signs, one for each PLACE (0 to 11", () -> {
      IslandsWed x = sea("<.>>..<<<..>");
      int[] currents = {-1, 0, 1, 1, 0, 0, -1, -1, -1, 0, 0, 1};
      for (int place = 0; place < 12; place++) due(x.place(place, 0), currents[place]);
      due(x.place(-1, 0), UNKNOWN);
      due(x.place(12, 0), UNKNOWN);
      due(x.count(0), 12);
      due(x.count(1), 7);
    });
    of(0, "At first there is none.", () -> {
      due(new IslandsWed().count(0), 0);
      due(new IslandsWed().count(1), 0);
      due(page(ON).count(1), 0);
      for (int place = 0; place < 12; place++) due(page(ON).place(place, 0), UNKNOWN);
    });
    of(6, "1 which ISLAND is there (NONE)", () -> {
      IslandsWed x = still(ROCK, 11, 0);
      due(x.place(0, 1), 1);
      due(x.place(11, 1), 0);
      for (int place = 1; place < 11; place++) due(x.place(place, 1), NONE);
      for (int place = 0; place < 12; place++) due(sea(ON).place(place, 1), NONE);
    });
  }

  private static void anotherSea() {
    IslandsWed x = with(ON, ISLAND, 11, 0, 1, 2, 3);
    for (int island = 0; island < 4; island++) x.wed(island, island + 1);
    for (int island = 0; island < 5; island++) x.anchor(island, true);
    x.wind(1);
    for (int shells = 0; shells < 8; shells++) x.shell(0, 1, shells, false);
    x.image();
    x.axe(3, 4);
    x.anchor(4, false);
    x.island(ROCK, 1, 4);
    x.day();
    x.axe(0, 1);
    x.anchor(0, false);
    x.day();
    counts(x, 12, 12, 5, 2, 3, 2, 1, 2, 8, 0, 1, 0);
    due(write(x, "<...........").sea(), 1);
    counts(x, 12, 1, 0, 0, 0, 0, 0, 1, 0, 0, 2, 0);
    for (int place = 0; place < 12; place++) due(x.place(place, 1), NONE);
    for (int place = 1; place < 12; place++) due(x.place(place, 0), 0);
    due(x.place(0, 0), -1);
    for (int what = 0; what < 8; what++) due(x.about(0, what), UNKNOWN);
    due(x.restore(), STATE);
    due(x.wind(0), 1);
    for (int island = 0; island < 5; island++) {
      due(x.island(SAIL, 1, island + 4), island);
      due(x.about(island, 4), 0);
      due(x.about(island, 5), 1 << island);
      due(x.about(island, 7), 0);
    }
    due(x.island(SAIL, 1, 0), FULL);
    due(x.guess(0, 0), 24);
    for (int shells = 1; shells <= 8; shells++) due(x.shell(0, 1, 0, true), shells);
    due(x.image(), 0);
    due(x.restore(), 0);
  }

  // ---- the ring

  private static void theRing() {
    of(0, "they lie in a ring, behind 11 is 0", () -> {
      IslandsWed on = with(ON, ISLAND, 10);
      for (int place : new int[] {11, 0, 1}) {
        due(on.day(), 0);
        places(on, place);
        due(on.place(place, 1), 0);
      }
      IslandsWed back = with(BACK, ISLAND, 1);
      for (int place : new int[] {0, 11, 10}) {
        due(back.day(), 0);
        places(back, place);
        due(back.place(place, 1), 0);
      }
    });
    of(0, "if the PLACE of one is that right behind the PLACE of the other one in the ring", () -> {
      for (int a = 0; a < 12; a++) {
        for (int b = 0; b < 12; b++) {
          if (a == b) continue;
          int apart = Math.abs(a - b);
          boolean beside = apart == 1 || apart == 11;
          IslandsWed x = still(ROCK, a, b);
          due(x.about(0, 6), beside ? 2 : 0);
          due(x.about(1, 6), beside ? 1 : 0);
          due(x.meet(0, 1), beside ? 0 : NONE);
          due(x.anchors(0, 1, 0, 0), beside ? 0 : NONE);
          due(x.stable(1), beside ? 1 : 0);
          due(x.seasons(1, 0, 1), beside ? 1 : 0);
          due(x.wed(0, 1), beside ? 1 : STATE);
        }
      }
      due(still(ROCK, 5).about(0, 6), 0);
    });
    of(0, "if on none of these PLACES there is one of another PARTY", () -> {
      IslandsWed on = with(ON, ISLAND, 11);
      on.island(ROCK, 1, 0);
      due(on.day(), 1);
      places(on, 11, 0);
      IslandsWed back = with(BACK, ISLAND, 0);
      back.island(ROCK, 1, 11);
      due(back.day(), 1);
      places(back, 0, 11);
      IslandsWed free = with(ON, ISLAND, 11);
      free.island(ROCK, 1, 1);
      due(free.day(), 0);
      places(free, 0, 1);
      due(free.day(), 1);
      places(free, 0, 1);
    });
    of(14, "A DAY: how many PARTIES BUMP.", BoundaryTests::partiesOverTheRing);
  }

  /** A party that lies over the end of the ring goes on and back in one, and is barred at its first one only. */
  private static void partiesOverTheRing() {
    for (int wind = -1; wind <= 1; wind += 2) {
      for (int start = 9; start <= 12; start++) {
        IslandsWed x = still(SAIL, start % 12, (start + 1) % 12, (start + 2) % 12);
        x.wed(0, 1);
        x.wed(2, 1);
        x.wind(wind);
        due(x.day(), 0);
        places(x, (start + wind) % 12, (start + 1 + wind) % 12, (start + 2 + wind) % 12);
        due(x.about(0, 5), 7);
      }
    }
    IslandsWed on = still(SAIL, 10, 11);
    on.wed(0, 1);
    on.island(ROCK, 1, 0);
    on.wind(1);
    due(on.day(), 1);
    places(on, 10, 11, 0);
    on.wind(-1);
    due(on.day(), 0);
    places(on, 9, 10, 0);
    IslandsWed back = still(SAIL, 0, 1);
    back.wed(0, 1);
    back.island(ROCK, 1, 11);
    back.wind(-1);
    due(back.day(), 1);
    places(back, 0, 1, 11);
    back.wind(1);
    due(back.day(), 0);
    places(back, 1, 2, 11);
  }

  // ---- the wind

  private static void theWind() {
    of(0, "The WIND is -1, 0 (at first) or 1.", () -> {
      due(new IslandsWed().count(7), 1);
      due(sea(STILL).count(7), 1);
      due(sea(STILL).wind(-1), 1);
      due(sea(STILL).wind(1), 1);
    });
    of(7, "The WIND becomes so much: 1 more than it was.", () -> {
      for (int was = -1; was <= 1; was++) {
        for (int wind = -1; wind <= 1; wind++) {
          IslandsWed x = sea(STILL);
          x.wind(was);
          due(x.wind(wind), was + 1);
          due(x.count(7), wind + 1);
        }
      }
      due(sea(STILL).wind(-2), OUTSIDE);
      due(sea(STILL).wind(2), OUTSIDE);
    });
  }

  // ---- islands

  private static void theIslands() {
    of(0, "ISLANDS (5 at most, numbered)", () -> {
      IslandsWed x = sea(STILL);
      for (int island = 0; island < 5; island++) {
        due(x.about(island, 0), UNKNOWN);
        due(x.count(2), island);
        due(x.count(4), island);
        due(x.island(ROCK, 1, 2 * island), island);
        due(x.about(island, 0), ROCK);
      }
      due(x.island(ROCK, 1, 11), FULL);
      due(x.count(2), 5);
      due(x.about(5, 0), UNKNOWN);
    });
    of(8, "An ISLAND: its number.", () -> {
      IslandsWed x = sea(STILL);
      due(x.island(ISLAND, 1, 0), 0);
      due(x.island(BERG, 9, 11), 1);
      due(x.island(-1, 9, 5), OUTSIDE);
      due(x.island(5, 9, 5), OUTSIDE);
      due(x.island(BERG, 0, 5), OUTSIDE);
      due(x.island(BERG, 10, 5), OUTSIDE);
      due(x.island(BERG, 9, -1), UNKNOWN);
      due(x.island(BERG, 9, 12), UNKNOWN);
      due(x.island(BERG, 9, 0), STATE);
      due(x.island(BERG, 9, 11), STATE);
      for (int island = 2; island < 5; island++) due(x.island(ROCK, 1, island), island);
      due(x.island(ROCK, 1, 5), FULL);
    });
    of(0, "0 ISLAND, 1 ROCK, 2 SAIL, 3 TIDAL, 4 BERG", () -> {
      for (int kind = 0; kind <= 4; kind++) {
        IslandsWed x = sea(STILL);
        due(x.island(kind, 1, 0), 0);
        due(x.about(0, 0), kind);
      }
      due(sea(STILL).island(-1, 1, 0), OUTSIDE);
      due(sea(STILL).island(5, 1, 0), OUTSIDE);
    });
    of(0, "each of a SIZE (1 to 9)", () -> {
      for (int size = 1; size <= 9; size++) {
        IslandsWed x = sea(STILL);
        due(x.island(SAIL, size, 0), 0);
        due(x.about(0, 1), size);
      }
      due(sea(STILL).island(SAIL, 0, 0), OUTSIDE);
      due(sea(STILL).island(SAIL, 10, 0), OUTSIDE);
    });
    of(0, "on a PLACE where no other one is", () -> {
      for (int place = 0; place <= 11; place++) {
        IslandsWed x = sea(STILL);
        due(x.island(SAIL, 1, place), 0);
        due(x.about(0, 2), place);
        due(x.island(ROCK, 1, place), STATE);
      }
      due(sea(STILL).island(SAIL, 1, -1), UNKNOWN);
      due(sea(STILL).island(SAIL, 1, 12), UNKNOWN);
      IslandsWed left = with(ON, ISLAND, 11);
      left.day();
      due(left.island(ROCK, 1, 0), STATE);
      due(left.island(ROCK, 1, 11), 1);
    });
    of(0, "All are ISLANDS; a BERG is a SAIL, too.", () -> {
      for (int own = 0; own <= 4; own++) {
        IslandsWed x = still(ROCK, 2);
        x.island(own, 1, 0);
        due(x.as(1, -1), OUTSIDE);
        due(x.as(1, ISLAND), 1);
        due(x.as(1, ROCK), own == ROCK ? 1 : NONE);
        due(x.as(1, SAIL), own == SAIL || own == BERG ? 1 : NONE);
        due(x.as(1, TIDAL), own == TIDAL ? 1 : NONE);
        due(x.as(1, BERG), own == BERG ? 1 : NONE);
        due(x.as(1, 5), OUTSIDE);
      }
    });
    of(10, "NONE: it is none such (the cast fails).", () -> {
      IslandsWed x = still(SAIL, 0, 1, 2, 3, 4);
      for (int island = 0; island < 5; island++) {
        due(x.as(island, SAIL), island);
        due(x.as(island, BERG), NONE);
      }
      due(x.as(-1, SAIL), UNKNOWN);
      due(x.as(5, SAIL), UNKNOWN);
    });
    of(11, "It is ANCHORED, or not: whether it was (1, 0).", () -> {
      IslandsWed x = still(SAIL, 0, 2, 4, 6, 8);
      for (int island = 0; island < 5; island++) {
        due(x.about(island, 4), 0);
        due(x.anchor(island, true), 0);
        due(x.anchor(island, true), 1);
        due(x.about(island, 4), 1);
      }
      for (int island = 0; island < 5; island++) {
        due(x.anchor(island, false), 1);
        due(x.anchor(island, false), 0);
        due(x.about(island, 4), 0);
      }
      due(x.anchor(-1, true), UNKNOWN);
      due(x.anchor(5, true), UNKNOWN);
    });
  }

  /** An island of a kind on place 0, where there is this current, under this wind. */
  private static IslandsWed pushed(int kind, char sign, int wind) {
    IslandsWed x = sea(sign + STILL.substring(1));
    x.island(kind, 9, 0);
    x.wind(wind);
    return x;
  }

  private static void thePush() {
    String[] words = {"of an ISLAND the CURRENT of its PLACE", "of a ROCK 0", "of a SAIL CURRENT and WIND together",
        "of a TIDAL one the CURRENT, on even DAYS just the other way", "of a BERG WIND twice, and CURRENT, together"};
    for (int kind = 0; kind <= 4; kind++) {
      int own = kind;
      of(0, words[kind], () -> {
        for (int current = -1; current <= 1; current++) {
          for (int wind = -1; wind <= 1; wind++) {
            int[] push = {current, 0, current + wind, -current, 2 * wind + current};
            due(pushed(own, "<.>".charAt(current + 1), wind).about(0, 3), 100 + push[own]);
          }
        }
      });
    }
    of(9, "3 PUSH now, and 100 more", () -> {
      due(pushed(BERG, '>', 1).about(0, 3), 103);
      due(pushed(BERG, '<', -1).about(0, 3), 97);
      due(pushed(BERG, '.', 0).about(0, 3), 100);
    });
    of(0, "on even DAYS just the other way", () -> {
      IslandsWed x = with(ON, TIDAL, 0);
      for (int day = 0; day < 6; day++) {
        due(x.about(0, 3), day % 2 == 0 ? 99 : 101);
        due(x.day(), 0);
        places(x, day % 2 == 0 ? 11 : 0);
      }
      IslandsWed back = with(BACK, TIDAL, 11);
      due(back.day(), 0);
      places(back, 0);
      due(back.day(), 0);
      places(back, 11);
    });
    of(0, "One that is ANCHORED has PUSH 0.", () -> {
      for (int kind = 0; kind <= 4; kind++) {
        for (int wind = -1; wind <= 1; wind++) {
          IslandsWed x = pushed(kind, '>', wind);
          x.anchor(0, true);
          due(x.about(0, 3), 100);
          due(x.day(), 0);
          places(x, 0);
        }
      }
    });
    of(9, "what = 0 KIND, 1 SIZE, 2 PLACE", () -> {
      IslandsWed x = sea(">..........<");
      due(x.island(BERG, 9, 11), 0);
      due(x.island(ISLAND, 1, 0), 1);
      x.anchor(1, true);
      x.wed(1, 0);
      int[] first = {BERG, 9, 11, 99, 0, 3, 2, 2};
      int[] second = {ISLAND, 1, 0, 100, 1, 3, 1, 1};
      due(x.about(0, -1), OUTSIDE);
      for (int what = 0; what <= 7; what++) {
        due(x.about(0, what), first[what]);
        due(x.about(1, what), second[what]);
      }
      due(x.about(1, 8), OUTSIDE);
    });
  }

  // ---- ropes

  private static void theRopes() {
    of(12, "WED: how many ROPES there are.", () -> {
      IslandsWed x = still(ROCK, 10, 11, 0, 1, 2);
      due(x.count(3), 0);
      for (int island = 0; island < 4; island++) {
        due(x.wed(island + 1, island), island + 1);
        due(x.count(3), island + 1);
        due(x.count(4), 4 - island);
      }
      for (int a = 0; a < 5; a++) for (int b = 0; b < 5; b++) due(x.wed(a, b), a == b ? UNKNOWN : STATE);
      due(x.count(3), 4);
    });
    // Five islands in a ring of twelve have four neighbours at most, so a seventh rope is never asked for.
    of(0, "6 ROPES at most", () -> {
      for (int set = 0; set < 1 << 12; set++) {
        if (Integer.bitCount(set) != 5) continue;
        IslandsWed x = sea(STILL);
        for (int place = 0; place < 12; place++) if ((set >> place & 1) == 1) x.island(ROCK, 1, place);
        int beside = Integer.bitCount(set & (set << 1 | set >> 11));
        int ropes = 0;
        for (int a = 0; a < 5; a++) {
          for (int b = 0; b < a; b++) {
            int apart = Math.abs(x.about(a, 2) - x.about(b, 2));
            due(x.wed(a, b), apart == 1 || apart == 11 ? ++ropes : STATE);
          }
        }
        due(ropes, beside);
        due(x.count(3), beside);
        due(x.count(4), 5 - beside);
      }
    });
    of(12, "they are ROPED already, or not BESIDE each other", () -> {
      IslandsWed x = still(ROCK, 11, 0, 1);
      due(x.wed(0, 2), STATE);
      due(x.wed(0, 1), 1);
      due(x.wed(0, 1), STATE);
      due(x.wed(1, 0), STATE);
      due(x.wed(2, 1), 2);
      due(x.wed(0, 2), STATE);
    });
    of(0, "one alone is one, too", () -> {
      IslandsWed x = still(ROCK, 0, 1, 2, 3, 4);
      for (int island = 0; island < 5; island++) due(x.about(island, 5), 1 << island);
      due(x.count(4), 5);
      due(sea(STILL).count(4), 0);
    });
    of(0, "All that are tied by ROPES, one to the other, are a PARTY", () -> {
      IslandsWed x = still(ROCK, 0, 3, 1, 4, 2);
      int[][] pairs = {{0, 2}, {4, 1}, {1, 3}, {2, 4}};
      for (int[] pair : pairs) x.wed(pair[0], pair[1]);
      for (int island = 0; island < 5; island++) due(x.about(island, 5), 31);
      due(x.about(0, 7), 4);
      due(x.about(4, 7), 6);
      due(x.count(4), 1);
    });
    of(13, "AXED: how many ROPES there are.", () -> {
      IslandsWed x = still(ROCK, 10, 11, 0, 1, 2);
      for (int island = 0; island < 4; island++) x.wed(island, island + 1);
      due(x.axe(2, 1), 3);
      due(x.about(0, 5), 3);
      due(x.about(4, 5), 28);
      due(x.axe(1, 2), STATE);
      due(x.axe(0, 1), 2);
      due(x.axe(3, 4), 1);
      due(x.axe(3, 2), 0);
      due(x.axe(3, 2), STATE);
      counts(x, 12, 0, 5, 0, 5);
      for (int island = 0; island < 5; island++) due(x.about(island, 7), 0);
      due(x.wed(1, 2), 1);
    });
    of(18, "PARTING", () -> {
      IslandsWed x = still(ROCK, 10, 11, 0, 1, 2);
      for (int a = 0; a < 5; a++) for (int b = 0; b < 5; b++) due(x.parting(a, b), a == b ? UNKNOWN : STATE);
      for (int island = 0; island < 4; island++) x.wed(island, island + 1);
      for (int a = 0; a < 5; a++) for (int b = 0; b < 5; b++) due(x.parting(a, b), a == b ? UNKNOWN : 1);
      due(x.count(3), 4);
      x.axe(1, 2);
      for (int a = 0; a < 5; a++) for (int b = 0; b < 5; b++) if (a != b) due(x.parting(a, b), a < 2 == b < 2 ? 1 : STATE);
    });
  }

  // ---- a day

  private static void theDay() {
    of(14, "A DAY", () -> {
      IslandsWed none = sea(ON);
      for (int day = 0; day < 3; day++) {
        due(none.count(5), day);
        due(none.day(), 0);
      }
      counts(none, 12, 12, 0, 0, 0, 3, 0);
    });
    of(0, "above 0 all go one PLACE on, below 0 one back", () -> {
      for (int size = 1; size <= 9; size++) {
        for (int other = 1; other <= 9; other++) {
          IslandsWed x = sea(">..........<");
          x.island(ISLAND, size, 0);
          x.island(ISLAND, other, 11);
          x.wed(0, 1);
          due(x.day(), 0);
          int step = Integer.compare(size, other);
          places(x, step < 0 ? 11 : step, step < 0 ? 10 : step == 0 ? 11 : 0);
          due(x.count(6), 0);
        }
      }
    });
    of(0, "drifts by the sum of PUSH by SIZE of all in it", () -> {
      IslandsWed most = sea(ON);
      for (int place = 0; place < 5; place++) most.island(BERG, 9, (place + 9) % 12);
      for (int island = 0; island < 4; island++) most.wed(island, island + 1);
      most.wind(1);
      due(most.day(), 0);
      places(most, 10, 11, 0, 1, 2);
      most.wind(-1);
      due(most.day(), 0);
      places(most, 9, 10, 11, 0, 1);
      IslandsWed one = sea("<>..........");
      one.island(ISLAND, 9, 0);
      one.island(BERG, 3, 1);
      one.wed(0, 1);
      one.wind(1);
      due(one.day(), 0);
      places(one, 0, 1);
      one.anchor(0, true);
      due(one.day(), 0);
      places(one, 1, 2);
    });
    of(0, "if there is, it stays, and BUMPS (it counts).", () -> {
      IslandsWed faced = sea(">..........<");
      faced.island(ISLAND, 1, 11);
      faced.island(ISLAND, 1, 0);
      due(faced.day(), 0);
      places(faced, 10, 1);
      IslandsWed met = sea("<..........>");
      met.island(ISLAND, 1, 11);
      met.island(ISLAND, 9, 0);
      for (int day = 1; day <= 3; day++) {
        due(met.day(), 2);
        places(met, 11, 0);
        due(met.count(6), 2 * day);
      }
      IslandsWed row = with(ON, ISLAND, 11, 0, 1, 2);
      row.island(ROCK, 1, 3);
      due(row.day(), 4);
      places(row, 11, 0, 1, 2, 3);
      due(row.count(6), 4);
    });
    of(0, "each PARTY, by its least number", () -> {
      IslandsWed behind = with(ON, ISLAND, 11, 0);
      due(behind.day(), 1);
      places(behind, 11, 1);
      IslandsWed ahead = with(ON, ISLAND, 0, 11);
      due(ahead.day(), 0);
      places(ahead, 1, 0);
      IslandsWed least = with(ON, ISLAND, 0, 11, 1);
      least.wed(2, 0);
      due(least.day(), 0);
      places(least, 1, 0, 2);
      IslandsWed barred = with(ON, ISLAND, 1, 11, 0);
      barred.anchor(0, true);
      due(barred.day(), 2);
      places(barred, 1, 11, 0);
    });
    of(0, "Then the next DAY begins.", () -> {
      IslandsWed x = with(ON, TIDAL, 0);
      for (int day = 0; day < 4; day++) {
        due(x.count(5), day);
        due(x.image(), day);
        x.day();
      }
      due(x.count(5), 4);
    });
  }

  // ---- what would be

  /** Two that are roped, and a berg: the first of them and the berg meet after 60 days, and not before. */
  private static IslandsWed late() {
    IslandsWed x = sea("<.<...<<><>.");
    x.wind(1);
    x.island(TIDAL, 5, 2);
    x.island(BERG, 5, 3);
    x.island(BERG, 9, 5);
    x.wed(0, 1);
    return x;
  }

  /** As above, after 61 days. */
  private static IslandsWed later() {
    IslandsWed x = sea(">.<>><<>><<<");
    x.wind(1);
    x.island(TIDAL, 7, 11);
    x.island(BERG, 7, 0);
    x.island(BERG, 8, 2);
    x.wed(0, 1);
    return x;
  }

  private static IslandsWed behind(IslandsWed x, int days) {
    for (int d = 0; d < days; d++) x.day();
    return x;
  }

  private static void meetings() {
    of(0, "behind how many DAYS (0 to 60)", () -> {
      due(still(ROCK, 11, 0).meet(0, 1), 0);
      due(late().meet(0, 2), 60);
      due(late().meet(2, 0), 60);
      due(later().meet(0, 2), NONE);
      due(later().meet(2, 0), NONE);
      due(behind(later(), 1).meet(0, 2), 60);
      due(behind(later(), 60).meet(0, 2), 1);
      due(behind(later(), 61).about(0, 6), 6);
    });
    of(0, "two are BESIDE each other first; none", () -> {
      IslandsWed over = sea(STILL);
      over.island(SAIL, 1, 8);
      over.island(ROCK, 1, 0);
      over.wind(1);
      due(over.meet(0, 1), 3);
      over.wind(-1);
      due(over.meet(0, 1), 7);
      over.wind(0);
      due(over.meet(0, 1), NONE);
      IslandsWed parting = still(SAIL, 0);
      parting.island(ROCK, 1, 11);
      parting.wind(1);
      due(parting.meet(0, 1), 0);
      parting.day();
      due(parting.meet(0, 1), 9);
    });
    of(15, "MEET; NONE.", () -> {
      IslandsWed x = late();
      long before = x.digest();
      due(x.meet(0, 2), 60);
      due(x.meet(0, 1), 0);
      due(x.digest(), before);
      counts(x, 12, 7, 3, 1, 2, 0, 0, 2);
    });
  }

  private static void anchored() {
    of(0, "ANCHORS for two and so many DAYS (0 to 30)", () -> {
      due(still(ROCK, 11, 0).anchors(0, 1, 0, 0), 0);
      due(still(ROCK, 11, 0).anchors(0, 1, 30, 0), 0);
      due(still(ROCK, 11, 0).anchors(0, 1, -1, 0), OUTSIDE);
      due(still(ROCK, 11, 0).anchors(0, 1, 31, 0), OUTSIDE);
      due(behind(late(), 30).anchors(0, 2, 30, 0), 0);
      due(behind(late(), 30).anchors(0, 2, 29, 0) == 0 ? 1 : 0, 0);
      due(behind(late(), 29).anchors(0, 2, 30, 0) == 0 ? 1 : 0, 0);
      due(behind(late(), 60).anchors(0, 2, 0, 1), 0);
      due(behind(late(), 59).anchors(0, 2, 0, 1), NONE);
    });
    of(0, "so that they MEET by then", () -> {
      for (int days = 0; days <= 30; days++) {
        IslandsWed x = with(ON, ISLAND, 9, 1);
        due(x.anchors(0, 1, days, 0), days < 3 ? NONE : 1);
        due(x.anchors(0, 1, days, 1), days < 3 ? NONE : days < 7 ? 2 : 1);
        due(x.anchors(1, 0, days, 1), days < 3 ? NONE : days < 7 ? 2 : 1);
        due(x.count(5), 0);
        due(x.about(0, 4) + x.about(1, 4), 0);
      }
    });
    of(0, "which ISLANDS must be ANCHORED besides, from now on", () -> {
      IslandsWed x = with(ON, ISLAND, 9, 1);
      x.anchor(1, true);
      due(x.anchors(0, 1, 3, 0), 0);
      due(x.anchors(0, 1, 3, 1), 0);
      due(x.anchors(0, 1, 2, 1), NONE);
      x.anchor(0, true);
      due(x.anchors(0, 1, 30, 0), NONE);
      due(x.anchors(0, 1, 30, 1), NONE);
    });
    of(0, "of all sets the fewest, of like ones the least bits; none", () -> {
      IslandsWed five = with(ON, ISLAND, 0, 1, 2, 6, 3);
      for (int[] pair : new int[][] {{0, 1}, {1, 2}, {2, 4}}) five.wed(pair[0], pair[1]);
      due(five.anchors(4, 3, 30, 0), 1);
      due(five.anchors(4, 3, 30, 1), 8);
      due(five.anchors(0, 3, 30, 0), 4);
      due(five.anchors(0, 3, 30, 1), 23);
      // Both of a party have lesser bits than the one that does it alone.
      IslandsWed fewer = with(ON, ISLAND, 7, 8, 3, 5);
      fewer.wed(0, 1);
      due(fewer.anchors(2, 3, 30, 0), 1);
      due(fewer.anchors(2, 3, 30, 1), 8);
      fewer.anchor(0, true);
      due(fewer.anchors(2, 3, 30, 1), 2);
      IslandsWed all = with(ON, ISLAND, 0, 2, 4, 6, 8);
      due(all.anchors(0, 2, 30, 0), NONE);
      due(all.anchors(0, 4, 30, 1), 1);
      // The first one bars the last one, as they lie in a ring; so would the last one itself, by more bits.
      due(all.anchors(3, 4, 30, 1), 1);
      all.anchor(0, true);
      due(all.anchors(3, 4, 30, 1), 0);
    });
    of(16, "STATE: anchors() was done 30 times", () -> {
      IslandsWed x = with(ON, ISLAND, 9, 1);
      for (int done = 0; done < 30; done++) {
        due(x.count(11), done);
        due(x.anchors(0, 1, done % 2 * 3, 0), done % 2 == 0 ? NONE : 1);
        due(x.anchors(0, 1, 31, 0), OUTSIDE);
        due(x.anchors(0, 2, 30, 0), UNKNOWN);
      }
      due(x.count(11), 30);
      due(x.anchors(0, 1, 3, 0), STATE);
      due(x.anchors(0, 1, 0, 1), STATE);
      due(x.count(11), 30);
    });
  }

  private static void matches(IslandsWed x, int pairs, int... mates) {
    due(x.stable(-1), OUTSIDE);
    due(x.stable(0), 1);
    due(x.stable(1), pairs);
    due(x.stable(2), OUTSIDE);
    due(x.stable(9), OUTSIDE);
    for (int island = 0; island < 5; island++) due(x.stable(10 + island), mates[island]);
    due(x.stable(15), OUTSIDE);
  }

  private static IslandsWed sized(int... sizes) {
    IslandsWed x = sea(STILL);
    for (int island = 0; island < sizes.length; island++) x.island(ROCK, sizes[island], (10 + island) % 12);
    return x;
  }

  private static void matched() {
    of(17, "how many pairs that of most pairs has (0: there is none)", () -> {
      matches(sea(STILL), 0, NONE, NONE, NONE, NONE, NONE);
      matches(still(ROCK, 0), 0, NONE, NONE, NONE, NONE, NONE);
      matches(still(ROCK, 0, 2, 4, 6, 8), 0, NONE, NONE, NONE, NONE, NONE);
      matches(still(ROCK, 11, 0), 1, 1, 0, NONE, NONE, NONE);
      matches(still(ROCK, 10, 11, 0, 1), 2, 1, 0, 3, 2, NONE);
    });
    of(17, "10 to 14 whom ISLAND 0 to 4 has in it (NONE: nobody)", () -> {
      matches(sized(1, 1, 1, 1, 1), 2, 1, 0, 3, 2, NONE);
      matches(sized(1, 1, 1, 1, 2), 2, 1, 0, NONE, 4, 3);
      matches(sized(1, 9, 1, 9, 1), 2, 1, 0, 3, 2, NONE);
      matches(sized(1, 1, 9, 1, 1), 1 + 1, NONE, 2, 1, 4, 3);
    });
    of(0, "One likes those of greater SIZE better, of like ones those of the lesser number, and anybody better than nobody.", () -> {
      matches(sized(8, 9, 9), 1, NONE, 2, 1, NONE, NONE);
      matches(sized(9, 9, 8), 1, 1, 0, NONE, NONE, NONE);
      matches(sized(9, 9, 9), 1, 1, 0, NONE, NONE, NONE);
      matches(sized(1, 9), 1, 1, 0, NONE, NONE, NONE);
    });
    of(0, "each in one pair at most", () -> {
      matches(still(ROCK, 11, 5, 0, 6), 2, 2, 3, 0, 1, NONE);
      matches(still(ROCK, 11, 5, 6, 0), 2, 3, 2, 1, 0, NONE);
      matches(still(ROCK, 3, 11, 5, 0, 6), 2, NONE, 3, 4, 1, 2);
    });
    of(0, "that MEET (as it is now) in 30 DAYS", () -> {
      // The current on place 1 holds the sail there, once it has gone away from the rock.
      IslandsWed parted = sea(".<..........");
      parted.island(ROCK, 1, 10);
      parted.island(SAIL, 1, 11);
      parted.wind(1);
      matches(parted, 1, 1, 0, NONE, NONE, NONE);
      parted.day();
      matches(parted, 0, NONE, NONE, NONE, NONE, NONE);
      parted.wind(-1);
      matches(parted, 1, 1, 0, NONE, NONE, NONE);
      due(behind(late(), 30).meet(0, 2), 30);
      matches(behind(late(), 30), 1, 2, NONE, 0, NONE, NONE);
      due(behind(late(), 29).meet(0, 2), 31);
      matches(behind(late(), 29), 1, 1, 0, NONE, NONE, NONE);
    });
  }

  // ---- shells

  private static void theShells() {
    of(0, "SHELLS (8 at most)", () -> {
      IslandsWed x = still(ROCK, 11, 0);
      due(x.count(8), 0);
      for (int shells = 1; shells <= 8; shells++) {
        due(x.shell(0, 1, shells, true), shells);
        due(x.count(8), shells);
      }
      due(x.shell(0, 1, 0, false), FULL);
      due(x.guess(0, 0), 6);
      due(x.forget(), 8);
      for (int shells = 1; shells <= 8; shells++) due(x.shell(1, 0, 0, false), shells);
      due(x.shell(1, 0, 0, true), FULL);
      due(x.guess(0, 0), 27);
    });
    of(19, "day (0 to 20)", () -> {
      for (int day = 0; day <= 20; day++) due(still(ROCK, 0, 1).shell(0, 1, day, true), 1);
      due(still(ROCK, 0, 1).shell(0, 1, -1, true), OUTSIDE);
      due(still(ROCK, 0, 1).shell(0, 1, 21, true), OUTSIDE);
    });
    of(20, "All SHELLS are gone: how many there were.", () -> {
      due(new IslandsWed().forget(), 0);
      IslandsWed x = still(ROCK, 11, 0);
      due(x.forget(), 0);
      x.shell(0, 1, 0, false);
      due(x.guess(1, 0), 27);
      due(x.forget(), 1);
      due(x.count(8), 0);
      due(x.guess(1, 0), 33);
      due(x.forget(), 0);
    });
    of(0, "of those from now on, 0 is now; 0 to 20", () -> {
      IslandsWed first = still(SAIL, 3);
      first.island(ROCK, 1, 0);
      first.shell(0, 1, 0, true);
      due(first.guess(0, 0), 6);
      due(first.guess(0, 1), 3);
      // A tidal one goes back from each place on even days, and comes again on odd ones.
      IslandsWed last = with(ON, TIDAL, 9);
      last.island(ROCK, 1, 5);
      last.shell(0, 1, 20, true);
      due(last.guess(0, 0), 3);
      due(last.guess(0, 1), 12);
      last.forget();
      last.shell(1, 0, 19, true);
      due(last.guess(0, 0), 6);
      due(last.guess(0, 1), 18);
      last.day();
      last.forget();
      last.shell(0, 1, 20, true);
      due(last.guess(0, 0), 3);
      due(last.guess(0, 1), 18);
    });
  }

  private static void guesses() {
    of(0, "on which PLACE it could be now (where no other one is)", () -> {
      for (int islands = 1; islands <= 5; islands++) {
        IslandsWed x = sea(STILL);
        for (int island = 0; island < islands; island++) x.island(SAIL, 1, island);
        for (int island = 0; island < islands; island++) {
          due(x.guess(island, 0), 3 * (13 - islands));
          due(x.guess(island, 1), 3 * island);
        }
      }
    });
    of(0, "3 times the PLACE, and WIND and 1: how many; the least", () -> {
      // On each place and under each wind by itself: beside the anchored one on day 1, and not ahead of it.
      for (int rock = 0; rock < 12; rock++) {
        IslandsWed x = still(SAIL, (rock + 6) % 12);
        x.island(ROCK, 1, rock);
        x.shell(0, 1, 0, false);
        x.shell(0, 1, 1, true);
        int from = 3 * ((rock + 10) % 12) + 2;
        int back = 3 * ((rock + 2) % 12);
        due(x.guess(0, 0), 2);
        due(x.guess(0, 1), Math.min(from, back));
      }
      IslandsWed greatest = still(SAIL, 5);
      greatest.island(ROCK, 1, 1);
      greatest.island(ROCK, 1, 3);
      greatest.shell(0, 1, 0, false);
      greatest.shell(0, 1, 1, true);
      due(greatest.guess(0, 0), 1);
      due(greatest.guess(0, 1), 35);
    });
    of(21, "1 the least (NONE)", () -> {
      IslandsWed x = still(ROCK, 0, 6);
      x.shell(0, 1, 0, true);
      x.shell(0, 1, 0, false);
      due(x.guess(0, -1), OUTSIDE);
      due(x.guess(0, 0), 0);
      due(x.guess(0, 1), NONE);
      due(x.guess(0, 2), OUTSIDE);
      due(x.guess(1, 1), NONE);
      due(still(ROCK, 0).guess(0, 1), 0);
      due(still(ROCK, 0).guess(0, 0), 36);
    });
    of(0, "so that all SHELLS would be so", () -> {
      IslandsWed x = still(ROCK, 3, 0, 6);
      x.shell(0, 1, 0, true);
      due(x.guess(0, 1), 3);
      x.shell(0, 2, 0, false);
      due(x.guess(0, 0), 6);
      x.island(ROCK, 1, 2);
      for (int shells = 3; shells <= 7; shells++) x.shell(2, 0, shells, false);
      due(x.guess(0, 0), 6);
      x.shell(0, 3, 20, true);
      due(x.guess(0, 0), 3);
      due(x.guess(0, 1), 3);
      due(x.guess(3, 0), 0);
    });
  }

  // ---- seasons

  private static long nextSeed(long seed) {
    return BigInteger.valueOf(1103515245).multiply(BigInteger.valueOf(seed)).add(BigInteger.valueOf(12345))
        .mod(BigInteger.ONE.shiftLeft(31)).longValueExact();
  }

  private static void theSeasons() {
    of(22, "days (1 to 60), seed (0 at least), what", () -> {
      for (int seed : new int[] {0, 1, 2, 65535, 65536, 1 << 30, MAX - 1, MAX}) {
        IslandsWed held = still(SAIL, 0);
        held.island(ROCK, 1, 11);
        held.island(ROCK, 1, 1);
        long next = seed;
        int bumps = 0;
        for (int days = 1; days <= 60; days++) {
          next = nextSeed(next);
          bumps += next / 65536 % 3 == 1 ? 0 : 1;
          due(held.seasons(days, seed, 0), bumps);
          due(held.seasons(days, seed, 1), 2);
          due(held.seasons(days, seed, 2), next);
        }
        due(held.seasons(0, seed, 0), OUTSIDE);
        due(held.seasons(61, seed, 0), OUTSIDE);
        due(held.seasons(1, seed, -1), OUTSIDE);
        due(held.seasons(1, seed, 3), OUTSIDE);
        counts(held, 12, 0, 3, 0, 3, 0, 0, 1);
      }
      due(still(SAIL, 0).seasons(1, -1, 2), OUTSIDE);
      due(still(SAIL, 0).seasons(1, MIN, 2), OUTSIDE);
    });
    of(0, "ahead of each WIND is a DRAW of 3, less 1", () -> {
      long seed = 0;
      boolean[] seen = new boolean[3];
      for (int tries = 0; tries < 30; tries++) {
        int draw = (int) (nextSeed(seed) / 65536 % 3);
        seen[draw] = true;
        for (int place = 0; place < 12; place++) {
          IslandsWed x = still(SAIL, place);
          x.island(ROCK, 1, (place + 2) % 12);
          due(x.seasons(1, (int) seed, 1), draw == 2 ? 1 : 0);
          IslandsWed y = still(SAIL, place);
          y.island(ROCK, 1, (place + 10) % 12);
          due(y.seasons(1, (int) seed, 1), draw == 0 ? 1 : 0);
        }
        seed = nextSeed(seed);
      }
      for (boolean one : seen) due(one ? 1 : 0, 1);
    });
    of(0, "how often PARTIES BUMP; how many pairs are BESIDE each other then", () -> {
      IslandsWed none = sea(ON);
      due(none.seasons(60, 7, 0), 0);
      due(none.seasons(60, 7, 1), 0);
      due(still(ROCK, 0, 2, 4, 6, 8).seasons(60, 7, 1), 0);
      due(still(ROCK, 10, 11, 0, 1, 2).seasons(60, 7, 1), 4);
      IslandsWed bumped = with(ON, ISLAND, 11);
      bumped.island(ROCK, 1, 0);
      bumped.day();
      due(bumped.seasons(60, 7, 0), 60);
      due(bumped.seasons(1, 7, 0), 1);
      due(bumped.count(6), 1);
      IslandsWed tidal = with(ON, TIDAL, 4);
      tidal.island(ROCK, 1, 2);
      due(tidal.seasons(1, 7, 1), 1);
      due(tidal.seasons(2, 7, 1), 0);
      tidal.day();
      due(tidal.seasons(1, 7, 1), 0);
    });
  }

  // ---- images

  private static void images() {
    of(23, "An IMAGE is kept (one; the latest): the DAY.", () -> {
      IslandsWed x = with(ON, ISLAND, 11);
      due(x.image(), 0);
      x.day();
      due(x.image(), 1);
      behind(x, 3);
      due(x.restore(), 1);
      places(x, 0);
      behind(x, 2);
      due(x.restore(), 1);
      places(x, 0);
      due(x.image(), 1);
    });
    of(0, "how many ISLANDS there are (those that come since are gone by restore())", () -> {
      for (int kept = 0; kept <= 5; kept++) {
        IslandsWed x = sea(STILL);
        for (int island = 0; island < kept; island++) x.island(SAIL, 2, island);
        due(x.image(), 0);
        for (int island = kept; island < 5; island++) {
          due(x.island(BERG, 9, island), island);
          x.anchor(island, true);
          if (island > 0) x.wed(island, island - 1);
        }
        due(x.restore(), 0);
        due(x.count(2), kept);
        due(x.count(3), 0);
        due(x.about(kept, 0), UNKNOWN);
        for (int place = kept; place < 12; place++) due(x.place(place, 1), NONE);
        for (int island = kept; island < 5; island++) {
          due(x.island(TIDAL, 3, 11 - island), island);
          int[] about = {TIDAL, 3, 11 - island, 100, 0, 1 << island};
          for (int what = 0; what < about.length; what++) due(x.about(island, what), about[what]);
          due(x.about(island, 7), 0);
        }
        due(x.island(TIDAL, 3, 5), kept == 5 ? FULL : x.place(5, 1) == NONE ? FULL : STATE);
        due(x.count(4), 5);
      }
    });
    keptByImages();
    of(24, "It goes on from the IMAGE: the DAY.", () -> {
      IslandsWed x = with(ON, TIDAL, 0);
      x.day();
      x.image();
      behind(x, 4);
      due(x.restore(), 1);
      places(x, 11);
      due(x.day(), 0);
      places(x, 0);
      due(x.count(5), 2);
    });
    of(24, "or there is another SEA since", () -> {
      IslandsWed x = sea(STILL);
      x.image();
      write(x, "x");
      due(x.sea(), STATE);
      due(x.restore(), 0);
      x.blank();
      write(x, STILL).sea();
      due(x.restore(), STATE);
      due(x.image(), 0);
      due(x.restore(), 0);
    });
  }

  private static void keptByImages() {
    String all = "PLACES, ROPES, who is ANCHORED, WIND, the DAY, BUMPS, SHELLS";
    of(0, all, () -> {
      IslandsWed drifted = with(ON, ISLAND, 11, 5);
      drifted.island(ROCK, 1, 6);
      drifted.day();
      drifted.image();
      behind(drifted, 5);
      due(drifted.restore(), 1);
      places(drifted, 0, 5, 6);
      due(drifted.count(5), 1);
      due(drifted.count(6), 1);
    });
    of(0, all, () -> {
      IslandsWed ropes = still(ROCK, 11, 0, 1);
      ropes.wed(0, 1);
      ropes.image();
      ropes.axe(0, 1);
      ropes.wed(1, 2);
      ropes.restore();
      due(ropes.count(3), 1);
      due(ropes.about(1, 7), 1);
      due(ropes.about(2, 5), 4);
      due(ropes.about(0, 5), 3);
      due(ropes.axe(1, 2), STATE);
      due(ropes.axe(1, 0), 0);
    });
    of(0, all, () -> {
      IslandsWed anchors = still(ROCK, 0, 2);
      anchors.anchor(0, true);
      anchors.image();
      anchors.anchor(0, false);
      anchors.anchor(1, true);
      anchors.restore();
      due(anchors.about(0, 4), 1);
      due(anchors.about(1, 4), 0);
    });
    of(0, all, () -> {
      for (int wind = -1; wind <= 1; wind++) {
        IslandsWed x = sea(STILL);
        x.wind(wind);
        x.image();
        x.wind(wind == 1 ? -1 : wind + 1);
        x.restore();
        due(x.count(7), wind + 1);
      }
    });
    of(0, all, () -> {
      for (int kept = 0; kept <= 8; kept++) {
        IslandsWed x = still(ROCK, 11, 0);
        for (int shells = 0; shells < kept; shells++) x.shell(0, 1, shells, true);
        x.image();
        x.forget();
        for (int shells = 0; shells < 8; shells++) x.shell(1, 0, shells, false);
        x.restore();
        due(x.count(8), kept);
        due(x.guess(0, 0), kept == 0 ? 33 : 6);
        due(x.shell(0, 1, 20, true), kept == 8 ? FULL : kept + 1);
      }
    });
    of(0, all, () -> {
      // Each of what a shell tells is other than what is told by the shell since.
      int[][] since = {{0, 1, 3, 1}, {2, 0, 3, 1}, {2, 1, 2, 1}, {2, 1, 3, 0}};
      for (int[] shell : since) {
        IslandsWed x = still(SAIL, 0);
        x.island(ROCK, 1, 5);
        x.island(BERG, 1, 9);
        x.shell(2, 1, 3, true);
        int[] guesses = {x.guess(0, 0), x.guess(1, 0), x.guess(2, 0), x.guess(2, 1)};
        due(guesses[2], 10);
        due(guesses[3], 5);
        x.image();
        x.forget();
        x.shell(shell[0], shell[1], shell[2], shell[3] == 1);
        x.restore();
        for (int island = 0; island < 3; island++) due(x.guess(island, 0), guesses[island]);
        due(x.guess(2, 1), guesses[3]);
      }
    });
    of(24, "It goes on from the IMAGE", () -> {
      IslandsWed x = still(ROCK, 11, 0);
      x.image();
      write(x, ".x");
      x.anchors(0, 1, 0, 0);
      x.restore();
      counts(x, 12, 0, 2, 0, 2, 0, 0, 1, 0, 2, 1, 1);
      due(x.fault(), 1);
    });
  }

  // ---- what is told of all

  private static void counted() {
    of(25, "0 PLACES (0: no SEA)", () -> {
      due(new IslandsWed().count(0), 0);
      due(page(STILL).count(0), 0);
      due(sea(STILL).count(0), 12);
    });
    of(25, "How many", () -> {
      IslandsWed full = with(ON, ISLAND, 10, 11, 0, 1);
      full.island(ROCK, 9, 2);
      due(full.day(), 4);
      for (int island = 0; island < 4; island++) full.wed(island, island + 1);
      full.wind(1);
      for (int shells = 0; shells < 8; shells++) full.shell(0, 1, 0, true);
      write(full, STILL + "..");
      for (int done = 0; done < 30; done++) full.anchors(0, 1, 0, 0);
      due(full.count(-1), OUTSIDE);
      counts(full, 12, 12, 5, 4, 1, 1, 4, 2, 8, 14, 1, 30);
      due(full.count(12), OUTSIDE);
      counts(sea(STILL), 12, 0, 0, 0, 0, 0, 0, 1, 0, 0, 1, 0);
      due(sea(STILL).count(12), OUTSIDE);
    });
    of(25, "7 the WIND, and 1", () -> {
      for (int wind = -1; wind <= 1; wind++) {
        IslandsWed x = sea(STILL);
        x.wind(wind);
        due(x.count(7), wind + 1);
      }
    });
    of(25, "10 how often a SEA was read", () -> {
      IslandsWed x = new IslandsWed();
      for (int read = 0; read < 4; read++) {
        due(x.count(10), read);
        due(x.sea(), STATE);
        due(x.count(10), read);
        write(x, STILL).sea();
      }
      x.image();
      x.restore();
      due(x.count(10), 4);
    });
  }

  /** The document's words with numbers that have no end, cut to a long at last. */
  private static long digestOf(long... numbers) {
    BigInteger h = BigInteger.valueOf(857);
    for (long number : numbers) h = h.multiply(BigInteger.valueOf(31)).add(BigInteger.valueOf(number));
    return h.longValue();
  }

  private static long digestOf(IslandsWed x, String page) {
    List<Long> all = new ArrayList<>();
    boolean sea = x.count(0) > 0;
    for (int place = 0; sea && place < 12; place++) for (int what = 0; what <= 1; what++) all.add((long) x.place(place, what));
    for (int a = 0; a < x.count(2); a++) {
      for (int what = 0; what <= 7; what++) all.add((long) x.about(a, what));
      for (int b = 0; b < x.count(2); b++) if (a != b) all.add((long) x.meet(a, b));
    }
    for (int what : new int[] {0, 1, 10, 11, 12, 13, 14}) if (sea) all.add((long) x.stable(what));
    for (char letter : page.toCharArray()) all.add((long) letter);
    for (int what = 0; what <= 11; what++) all.add((long) x.count(what));
    return digestOf(all.stream().mapToLong(number -> number).toArray());
  }

  private static void digests() {
    of(26, "h is 857, then for each of these numbers, in order, 31 times h, and it (as longs, wrapping)", () -> {
      due(new IslandsWed().digest(), digestOf(0, 0, 0, 0, 0, 0, 0, 1, 0, 0, 0, 0));
      due(page("~").digest(), digestOf(126, 0, 0, 0, 0, 0, 0, 0, 1, 0, 1, 0, 0));
      due(sea(">..........<").digest(), digestOf(1, -1, 0, -1, 0, -1, 0, -1, 0, -1, 0, -1, 0, -1, 0, -1, 0, -1, 0, -1, 0, -1, -1, -1,
          1, 0, -1, -1, -1, -1, -1, 12, 2, 0, 0, 0, 0, 0, 1, 0, 0, 1, 0));
      due(still(ROCK, 11, 0).digest(), digestOf(0, 1, 0, -1, 0, -1, 0, -1, 0, -1, 0, -1, 0, -1, 0, -1, 0, -1, 0, -1, 0, -1, 0, 0,
          1, 1, 11, 100, 0, 1, 2, 0, 0, 1, 1, 0, 100, 0, 2, 1, 0, 0,
          1, 1, 1, 0, -1, -1, -1, 12, 0, 2, 0, 2, 0, 0, 1, 0, 0, 1, 0));
    });
    of(26, "of each ISLAND what about() tells for 0 to 7, of each other one MEET", () -> {
      due(late().digest(), digestOf(late(), ""));
      due(later().digest(), digestOf(later(), ""));
      due(behind(late(), 30).digest(), digestOf(behind(late(), 30), ""));
      for (int islands = 0; islands <= 5; islands++) {
        IslandsWed x = sea("><.>>.<<..>.");
        for (int island = 0; island < islands; island++) x.island(4 - island, 9 - island, (10 + 2 * island) % 12);
        x.wind(-1);
        due(x.digest(), digestOf(x, ""));
      }
    });
    of(26, "letters of THE PAGE", () -> {
      for (int letters = 0; letters <= 14; letters++) {
        String text = "a~><.b,d=f:hij".substring(0, letters);
        due(page(text).digest(), digestOf(page(text), text));
        due(write(sea(ON), text).digest(), digestOf(write(sea(ON), text), text));
      }
    });
    of(26, "what count() tells for 0 to 11", () -> {
      IslandsWed x = with(ON, ISLAND, 10, 11, 0, 1, 2);
      x.anchor(4, true);
      behind(x, 2);
      x.shell(0, 1, 20, true);
      x.anchors(0, 1, 30, 1);
      x.wind(1);
      x.wed(4, 3);
      due(x.digest(), digestOf(x, ""));
      due(x.digest(), x.digest());
    });
  }
}
