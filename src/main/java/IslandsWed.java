import java.util.Arrays;

/** Islands that drift on a ring of twelve places, meet, are roped and are parted. */
public final class IslandsWed {
    public static final int NONE = -1, UNKNOWN = -101, OUTSIDE = -102, STATE = -103, FULL = -104;

    private static final int PLACES = 12;
    private static final int LETTERS = 14;
    private static final int LAST_CODE = 126;
    private static final int ISLANDS = 5;
    private static final int KINDS = 5;
    private static final int LAST_SIZE = 9;
    private static final int ROPES = 6;
    private static final int SHELLS = 8;

    private static final int SAIL = 2;
    private static final int TIDAL = 3;
    private static final int BERG = 4;
    /** By kind: how many times the current and the wind count in a push. */
    private static final int[] CURRENT_SHARE = {1, 0, 1, 1, 1};
    private static final int[] WIND_SHARE = {0, 0, 1, 0, 2};

    private static final int MEET_DAYS = 60;
    private static final int ANCHOR_DAYS = 30;
    private static final int ANCHOR_CALLS = 30;
    private static final int MATCH_DAYS = 30;
    private static final int SHELL_DAYS = 20;
    private static final int SEASON_DAYS = 60;
    private static final int ABOUTS = 8;
    private static final int COUNTS = 12;
    private static final int FIRST_MATE = 10;

    private static final long DRAW_FACTOR = 1103515245L;
    private static final long DRAW_STEP = 12345L;
    private static final long DRAW_MASK = 0x7fffffffL;
    private static final int DRAW_SHIFT = 16;

    private final int[] page = new int[LETTERS];
    private int letters = 0;

    private boolean hasSea = false;
    private boolean hasImage = false;
    private int seasRead = 0;
    private int anchorsDone = 0;

    private final Waters now = new Waters();
    private final Waters kept = new Waters();
    /** What would be is tried out on this one, so that no call has to make another. */
    private final Waters trial = new Waters();
    private final Shells shells = new Shells();
    private final Shells keptShells = new Shells();
    /** By a * ISLANDS + b: the first day on which the two are beside each other. */
    private final int[] met = new int[ISLANDS * ISLANDS];
    private final Matches matches = new Matches();

    public IslandsWed() {
    }

    // ---- the sea

    public int letter(int code) {
        if (code < 1 || code > LAST_CODE) {
            return OUTSIDE;
        }
        if (letters >= LETTERS) {
            return FULL;
        }
        page[letters] = code;
        letters++;
        return letters;
    }

    public int blank() {
        int had = letters;
        letters = 0;
        return had;
    }

    public int fault() {
        int good = Math.min(letters, PLACES);
        for (int i = 0; i < good; i++) {
            if (!isSign(page[i])) {
                return i;
            }
        }
        return good;
    }

    public int sea() {
        if (letters != PLACES || fault() != PLACES) {
            return STATE;
        }
        now.clear();
        for (int i = 0; i < PLACES; i++) {
            now.current[i] = currentOf(page[i]);
        }
        shells.number = 0;
        letters = 0;
        hasSea = true;
        hasImage = false;
        seasRead++;
        return now.currents();
    }

    public int place(int place, int what) {
        if (!isPlace(place)) {
            return UNKNOWN;
        }
        if (what < 0 || what > 1) {
            return OUTSIDE;
        }
        return what == 0 ? now.current[place] : now.islandAt(place);
    }

    public int wind(int wind) {
        if (wind < -1 || wind > 1) {
            return OUTSIDE;
        }
        if (!hasSea) {
            return STATE;
        }
        int was = now.wind;
        now.wind = wind;
        return was + 1;
    }

    // ---- islands

    public int island(int kind, int size, int place) {
        if (!isKind(kind) || size < 1 || size > LAST_SIZE) {
            return OUTSIDE;
        }
        if (!isPlace(place)) {
            return UNKNOWN;
        }
        if (now.islandAt(place) != NONE) {
            return STATE;
        }
        if (now.islands >= ISLANDS) {
            return FULL;
        }
        return now.add(kind, size, place);
    }

    public int about(int island, int what) {
        if (!isIsland(island)) {
            return UNKNOWN;
        }
        switch (what) {
            case 0: return now.kind[island];
            case 1: return now.size[island];
            case 2: return now.place[island];
            case 3: return now.pushOf(island) + 100;
            case 4: return now.isAnchored(island) ? 1 : 0;
            case 5: return now.party[island];
            case 6: return now.neighbours(island);
            case 7: return now.roped[island];
            default: return OUTSIDE;
        }
    }

    public int as(int island, int kind) {
        if (!isIsland(island)) {
            return UNKNOWN;
        }
        if (!isKind(kind)) {
            return OUTSIDE;
        }
        int own = now.kind[island];
        boolean isSuch = kind == 0 || kind == own || (kind == SAIL && own == BERG);
        return isSuch ? island : NONE;
    }

    public int anchor(int island, boolean is) {
        if (!isIsland(island)) {
            return UNKNOWN;
        }
        int was = now.isAnchored(island) ? 1 : 0;
        if (is) {
            now.anchored |= 1 << island;
        } else {
            now.anchored &= ~(1 << island);
        }
        return was;
    }

    public int wed(int a, int b) {
        if (!areTwo(a, b)) {
            return UNKNOWN;
        }
        if (now.areRoped(a, b) || !now.areBeside(a, b)) {
            return STATE;
        }
        if (now.ropes >= ROPES) {
            return FULL;
        }
        now.tie(a, b);
        return now.ropes;
    }

    public int axe(int a, int b) {
        if (!areTwo(a, b)) {
            return UNKNOWN;
        }
        if (!now.areRoped(a, b)) {
            return STATE;
        }
        now.cut(a, b);
        return now.ropes;
    }

    public int day() {
        return hasSea ? now.drift() : STATE;
    }

    // ---- what would be

    public int meet(int a, int b) {
        if (!areTwo(a, b)) {
            return UNKNOWN;
        }
        return firstMeeting(a, b, MEET_DAYS, 0);
    }

    public int anchors(int a, int b, int days, int what) {
        if (!areTwo(a, b)) {
            return UNKNOWN;
        }
        if (days < 0 || days > ANCHOR_DAYS || what < 0 || what > 1) {
            return OUTSIDE;
        }
        if (anchorsDone >= ANCHOR_CALLS) {
            return STATE;
        }
        anchorsDone++;
        int set = fewestAnchors(a, b, days);
        if (set == NONE) {
            return NONE;
        }
        return what == 0 ? Integer.bitCount(set) : set;
    }

    public int stable(int what) {
        boolean asksMate = what >= FIRST_MATE && what < FIRST_MATE + ISLANDS;
        if (what != 0 && what != 1 && !asksMate) {
            return OUTSIDE;
        }
        if (!hasSea) {
            return STATE;
        }
        meetAll(MATCH_DAYS);
        matches.solve(now, met);
        return matchesTell(what);
    }

    public int parting(int a, int b) {
        if (!areTwo(a, b)) {
            return UNKNOWN;
        }
        if ((now.party[a] >> b & 1) == 0) {
            return STATE;
        }
        return now.fewestCuts(a, b);
    }

    // ---- shells

    public int shell(int a, int b, int day, boolean is) {
        if (!areTwo(a, b)) {
            return UNKNOWN;
        }
        if (day < 0 || day > SHELL_DAYS) {
            return OUTSIDE;
        }
        if (shells.number >= SHELLS) {
            return FULL;
        }
        return shells.add(a, b, day, is);
    }

    public int forget() {
        int had = shells.number;
        shells.number = 0;
        return had;
    }

    public int guess(int island, int what) {
        if (!isIsland(island)) {
            return UNKNOWN;
        }
        if (what < 0 || what > 1) {
            return OUTSIDE;
        }
        int many = 0;
        int least = NONE;
        for (int place = 0; place < PLACES; place++) {
            int there = now.islandAt(place);
            if (there != NONE && there != island) {
                continue;
            }
            for (int wind = -1; wind <= 1; wind++) {
                if (shellsWouldHold(island, place, wind)) {
                    many++;
                    least = least == NONE ? 3 * place + wind + 1 : least;
                }
            }
        }
        return what == 0 ? many : least;
    }

    public int seasons(int days, int seed, int what) {
        if (days < 1 || days > SEASON_DAYS || seed < 0 || what < 0 || what > 2) {
            return OUTSIDE;
        }
        if (!hasSea) {
            return STATE;
        }
        trial.copy(now);
        int next = seed;
        int bumping = 0;
        for (int d = 0; d < days; d++) {
            next = nextSeed(next);
            trial.wind = (next >> DRAW_SHIFT) % 3 - 1;
            bumping += trial.drift();
        }
        if (what == 0) {
            return bumping;
        }
        return what == 1 ? trial.pairsBeside() : next;
    }

    // ---- what is told of all

    public int image() {
        if (!hasSea) {
            return STATE;
        }
        kept.copy(now);
        keptShells.copy(shells);
        hasImage = true;
        return now.day;
    }

    public int restore() {
        if (!hasImage) {
            return STATE;
        }
        now.copy(kept);
        shells.copy(keptShells);
        return now.day;
    }

    public int count(int what) {
        switch (what) {
            case 0: return hasSea ? PLACES : 0;
            case 1: return now.currents();
            case 2: return now.islands;
            case 3: return now.ropes;
            case 4: return now.parties();
            case 5: return now.day;
            case 6: return now.bumps;
            case 7: return now.wind + 1;
            case 8: return shells.number;
            case 9: return letters;
            case 10: return seasRead;
            case 11: return anchorsDone;
            default: return OUTSIDE;
        }
    }

    public long digest() {
        long h = 857L;
        if (hasSea) {
            for (int place = 0; place < PLACES; place++) {
                h = 31L * h + now.current[place];
                h = 31L * h + now.islandAt(place);
            }
        }
        meetAll(MEET_DAYS);
        h = digestIslands(h);
        if (hasSea) {
            matches.solve(now, met);
            h = digestMatches(h);
        }
        for (int i = 0; i < letters; i++) {
            h = 31L * h + page[i];
        }
        for (int what = 0; what < COUNTS; what++) {
            h = 31L * h + count(what);
        }
        return h;
    }

    // ---- what the calls use

    private static boolean isSign(int code) {
        return code == '>' || code == '<' || code == '.';
    }

    private static int currentOf(int code) {
        if (code == '>') {
            return 1;
        }
        return code == '<' ? -1 : 0;
    }

    private static int nextSeed(int seed) {
        return (int) (DRAW_FACTOR * seed + DRAW_STEP & DRAW_MASK);
    }

    private static boolean isKind(int kind) {
        return kind >= 0 && kind < KINDS;
    }

    private boolean isPlace(int place) {
        return hasSea && place >= 0 && place < PLACES;
    }

    private boolean isIsland(int island) {
        return island >= 0 && island < now.islands;
    }

    private boolean areTwo(int a, int b) {
        return isIsland(a) && isIsland(b) && a != b;
    }

    private int firstMeeting(int a, int b, int days, int alsoAnchored) {
        trial.copy(now);
        trial.anchored |= alsoAnchored;
        for (int d = 0; d < days; d++) {
            if (trial.areBeside(a, b)) {
                return d;
            }
            trial.drift();
        }
        return trial.areBeside(a, b) ? days : NONE;
    }

    private int fewestAnchors(int a, int b, int days) {
        int sets = 1 << now.islands;
        for (int few = 0; few <= now.islands; few++) {
            for (int set = 0; set < sets; set++) {
                // One that is anchored already is never among the fewest.
                if (Integer.bitCount(set) != few || (set & now.anchored) != 0) {
                    continue;
                }
                if (firstMeeting(a, b, days, set) != NONE) {
                    return set;
                }
            }
        }
        return NONE;
    }

    /** One going on for all pairs, as it would be dear to go on for each pair anew. */
    private void meetAll(int days) {
        Arrays.fill(met, NONE);
        trial.copy(now);
        trial.noteMeetings(met, 0);
        for (int d = 1; d <= days; d++) {
            trial.drift();
            trial.noteMeetings(met, d);
        }
    }

    private int matchesTell(int what) {
        if (what == 0) {
            return matches.stable;
        }
        if (what == 1) {
            return Math.max(matches.mostPairs, 0);
        }
        int island = what - FIRST_MATE;
        return isIsland(island) ? matches.best[island] : NONE;
    }

    private boolean shellsWouldHold(int island, int place, int wind) {
        trial.copy(now);
        trial.place[island] = place;
        trial.wind = wind;
        int last = shells.lastDay();
        for (int d = 0; d <= last; d++) {
            if (!shells.holdOn(d, trial)) {
                return false;
            }
            trial.drift();
        }
        return true;
    }

    private long digestIslands(long begun) {
        long h = begun;
        for (int island = 0; island < now.islands; island++) {
            for (int what = 0; what < ABOUTS; what++) {
                h = 31L * h + about(island, what);
            }
            for (int other = 0; other < now.islands; other++) {
                if (other != island) {
                    h = 31L * h + met[island * ISLANDS + other];
                }
            }
        }
        return h;
    }

    private long digestMatches(long begun) {
        long h = 31L * begun + matchesTell(0);
        h = 31L * h + matchesTell(1);
        for (int island = 0; island < ISLANDS; island++) {
            h = 31L * h + matchesTell(FIRST_MATE + island);
        }
        return h;
    }

    /** A sea with all that drifts on it; sets of islands are bits. */
    private static final class Waters {
        private final int[] current = new int[PLACES];
        private final int[] kind = new int[ISLANDS];
        private final int[] size = new int[ISLANDS];
        private final int[] place = new int[ISLANDS];
        private final int[] roped = new int[ISLANDS];
        /** Follows from roped; kept, as every day of what would be asks for it. */
        private final int[] party = new int[ISLANDS];
        private int islands = 0;
        private int ropes = 0;
        private int anchored = 0;
        private int wind = 0;
        private int day = 0;
        private int bumps = 0;

        private void clear() {
            islands = 0;
            ropes = 0;
            anchored = 0;
            wind = 0;
            day = 0;
            bumps = 0;
        }

        private void copy(Waters other) {
            System.arraycopy(other.current, 0, current, 0, PLACES);
            System.arraycopy(other.kind, 0, kind, 0, ISLANDS);
            System.arraycopy(other.size, 0, size, 0, ISLANDS);
            System.arraycopy(other.place, 0, place, 0, ISLANDS);
            System.arraycopy(other.roped, 0, roped, 0, ISLANDS);
            System.arraycopy(other.party, 0, party, 0, ISLANDS);
            islands = other.islands;
            ropes = other.ropes;
            anchored = other.anchored;
            wind = other.wind;
            day = other.day;
            bumps = other.bumps;
        }

        private int currents() {
            int many = 0;
            for (int i = 0; i < PLACES; i++) {
                many += current[i] == 0 ? 0 : 1;
            }
            return many;
        }

        private int add(int newKind, int newSize, int newPlace) {
            int island = islands;
            kind[island] = newKind;
            size[island] = newSize;
            place[island] = newPlace;
            roped[island] = 0;
            party[island] = 1 << island;
            islands++;
            return island;
        }

        private int islandAt(int where) {
            for (int i = 0; i < islands; i++) {
                if (place[i] == where) {
                    return i;
                }
            }
            return NONE;
        }

        private boolean isAnchored(int island) {
            return (anchored >> island & 1) == 1;
        }

        private int pushOf(int island) {
            if ((anchored >> island & 1) == 1) {
                return 0;
            }
            int own = kind[island];
            int flow = current[place[island]];
            if (own == TIDAL && day % 2 == 0) {
                flow = -flow;
            }
            return CURRENT_SHARE[own] * flow + WIND_SHARE[own] * wind;
        }

        private boolean areBeside(int a, int b) {
            return stepped(place[a], 1) == place[b] || stepped(place[b], 1) == place[a];
        }

        private int neighbours(int island) {
            int bits = 0;
            for (int i = 0; i < islands; i++) {
                if (areBeside(island, i)) {
                    bits |= 1 << i;
                }
            }
            return bits;
        }

        private int pairsBeside() {
            int ends = 0;
            for (int i = 0; i < islands; i++) {
                ends += Integer.bitCount(neighbours(i));
            }
            return ends / 2;
        }

        private void noteMeetings(int[] first, int today) {
            for (int a = 0; a < islands; a++) {
                for (int b = a + 1; b < islands; b++) {
                    if (first[a * ISLANDS + b] == NONE && areBeside(a, b)) {
                        first[a * ISLANDS + b] = today;
                        first[b * ISLANDS + a] = today;
                    }
                }
            }
        }

        private boolean areRoped(int a, int b) {
            return (roped[a] >> b & 1) == 1;
        }

        private void tie(int a, int b) {
            roped[a] |= 1 << b;
            roped[b] |= 1 << a;
            ropes++;
            findParties();
        }

        private void cut(int a, int b) {
            roped[a] &= ~(1 << b);
            roped[b] &= ~(1 << a);
            ropes--;
            findParties();
        }

        private void findParties() {
            for (int i = 0; i < islands; i++) {
                party[i] = tiedTo(i);
            }
        }

        private int tiedTo(int island) {
            int bits = 1 << island;
            // Each round goes one rope on, and no way is longer than the islands are many.
            for (int round = 1; round < islands; round++) {
                for (int i = 0; i < islands; i++) {
                    if ((bits >> i & 1) == 1) {
                        bits |= roped[i];
                    }
                }
            }
            return bits;
        }

        private boolean leads(int island) {
            return (party[island] & ((1 << island) - 1)) == 0;
        }

        private int parties() {
            int many = 0;
            for (int i = 0; i < islands; i++) {
                many += leads(i) ? 1 : 0;
            }
            return many;
        }

        /** The fewest ropes between those that stay with a and the others, b among them. */
        private int fewestCuts(int a, int b) {
            int few = ropes;
            int sets = 1 << islands;
            for (int set = 0; set < sets; set++) {
                if ((set >> a & 1) == 1 && (set >> b & 1) == 0) {
                    few = Math.min(few, ropesOutOf(set));
                }
            }
            return few;
        }

        private int ropesOutOf(int set) {
            int many = 0;
            for (int i = 0; i < islands; i++) {
                if ((set >> i & 1) == 1) {
                    many += Integer.bitCount(roped[i] & ~set);
                }
            }
            return many;
        }

        /** A day goes by: how many parties bump. */
        private int drift() {
            int bumping = 0;
            for (int i = 0; i < islands; i++) {
                if (leads(i) && !moves(party[i])) {
                    bumping++;
                }
            }
            bumps += bumping;
            day++;
            return bumping;
        }

        private boolean moves(int members) {
            int step = stepOf(members);
            if (step == 0) {
                return true;
            }
            if (isBarred(members, step)) {
                return false;
            }
            for (int i = 0; i < islands; i++) {
                if ((members >> i & 1) == 1) {
                    place[i] = stepped(place[i], step);
                }
            }
            return true;
        }

        private int stepOf(int members) {
            int sum = 0;
            for (int i = 0; i < islands; i++) {
                if ((members >> i & 1) == 1) {
                    sum += pushOf(i) * size[i];
                }
            }
            return Integer.compare(sum, 0);
        }

        private boolean isBarred(int members, int step) {
            int wanted = 0;
            int taken = 0;
            for (int i = 0; i < islands; i++) {
                if ((members >> i & 1) == 1) {
                    wanted |= 1 << stepped(place[i], step);
                } else {
                    taken |= 1 << place[i];
                }
            }
            return (wanted & taken) != 0;
        }

        private static int stepped(int from, int step) {
            int to = from + step;
            if (to < 0) {
                return PLACES - 1;
            }
            return to < PLACES ? to : 0;
        }
    }

    /** What is known of who was beside whom; days are told from the day of asking on. */
    private static final class Shells {
        private final int[] one = new int[SHELLS];
        private final int[] other = new int[SHELLS];
        private final int[] when = new int[SHELLS];
        private final boolean[] were = new boolean[SHELLS];
        private int number = 0;

        private int add(int a, int b, int day, boolean is) {
            one[number] = a;
            other[number] = b;
            when[number] = day;
            were[number] = is;
            number++;
            return number;
        }

        private void copy(Shells from) {
            for (int i = 0; i < from.number; i++) {
                one[i] = from.one[i];
                other[i] = from.other[i];
                when[i] = from.when[i];
                were[i] = from.were[i];
            }
            number = from.number;
        }

        private int lastDay() {
            int last = NONE;
            for (int i = 0; i < number; i++) {
                last = Math.max(last, when[i]);
            }
            return last;
        }

        private boolean holdOn(int day, Waters waters) {
            for (int i = 0; i < number; i++) {
                if (when[i] == day && waters.areBeside(one[i], other[i]) != were[i]) {
                    return false;
                }
            }
            return true;
        }
    }

    /** Goes through all matches, those of least numbers first, and keeps the best stable one. */
    private static final class Matches {
        private final int[] size = new int[ISLANDS];
        /** By island: those it would meet, as bits. */
        private final int[] suitors = new int[ISLANDS];
        private final int[] mate = new int[ISLANDS];
        private final int[] best = new int[ISLANDS];
        private int islands = 0;
        private int stable = 0;
        private int mostPairs = NONE;

        private void solve(Waters waters, int[] met) {
            islands = waters.islands;
            for (int i = 0; i < islands; i++) {
                size[i] = waters.size[i];
                suitors[i] = 0;
                for (int j = 0; j < islands; j++) {
                    int first = met[i * ISLANDS + j];
                    if (first != NONE && first <= MATCH_DAYS) {
                        suitors[i] |= 1 << j;
                    }
                }
            }
            Arrays.fill(mate, NONE);
            Arrays.fill(best, NONE);
            stable = 0;
            mostPairs = NONE;
            goThrough(0, 0);
        }

        /** Goes one island deeper each time, so at most as deep as there are islands. */
        private void goThrough(int island, int pairs) {
            if (island >= islands) {
                weigh(pairs);
                return;
            }
            goThrough(island + 1, pairs);
            if (mate[island] != NONE) {
                return;
            }
            for (int j = island + 1; j < islands; j++) {
                if (mate[j] == NONE && (suitors[island] >> j & 1) == 1) {
                    mate[island] = j;
                    mate[j] = island;
                    goThrough(island + 1, pairs + 1);
                    mate[island] = NONE;
                    mate[j] = NONE;
                }
            }
        }

        private void weigh(int pairs) {
            if (!isStable()) {
                return;
            }
            stable++;
            if (pairs > mostPairs) {
                mostPairs = pairs;
                System.arraycopy(mate, 0, best, 0, ISLANDS);
            }
        }

        private boolean isStable() {
            for (int i = 0; i < islands; i++) {
                for (int j = i + 1; j < islands; j++) {
                    boolean meet = (suitors[i] >> j & 1) == 1;
                    if (meet && mate[i] != j && likesBetter(j, mate[i]) && likesBetter(i, mate[j])) {
                        return false;
                    }
                }
            }
            return true;
        }

        /** All like by the same order, so it does not matter who is asked. */
        private boolean likesBetter(int wooer, int had) {
            if (had == NONE) {
                return true;
            }
            return size[wooer] > size[had] || (size[wooer] == size[had] && wooer < had);
        }
    }
}
