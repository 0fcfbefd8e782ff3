/** A court whose cases are argued by shadow, on a floor of ten tiles. ../shared/DOC.md says what each call promises. */
public final class ShadowCourt {
  public static final int NONE = -1, UNKNOWN = -101, OUTSIDE = -102, STATE = -103, FULL = -104;

  private static final int TILES = 10;
  private static final int HOURS = 13;
  private static final int NOON = 6;
  private static final int HIGHEST = 9;
  private static final int MOST_DAYS = 100;
  private static final int MOST_LETTERS = 34;
  private static final int MOST_PARTIES = 5;
  private static final int MOST_CASES = 5;
  private static final int MOST_SEEN = 8;
  private static final int MOST_GAME_HOURS = 4;
  private static final int MOST_ODDS_HOURS = 6;
  private static final int MOST_TIMES = 60;
  private static final int FOUND_MORE = 100;
  private static final int GAME_MORE = 500;

  private static final int KIND_PARTY = 0;
  private static final int KIND_HAT = 1;
  private static final int KIND_THIN = 2;
  private static final int KIND_CHILD = 3;
  private static final int KIND_PLUME = 4;

  private final Page page = new Page();
  private final Court now = new Court();
  private final Court kept = new Court();
  private final Sight sight = new Sight();
  private final Game play = new Game();
  private final Docket list = new Docket();
  private final Terms draws = new Terms();
  private boolean isKept;
  private int courts;

  public ShadowCourt() {
  }

  // ---- the court

  public int letter(int code) {
    if (!within(code, 32, 126)) return OUTSIDE;
    if (page.length >= MOST_LETTERS) return FULL;
    page.letters[page.length] = (char) code;
    page.length++;
    return page.length;
  }

  public int blank() {
    int had = page.length;
    page.length = 0;
    return had;
  }

  public int fault() {
    return page.firstWrong();
  }

  public int court() {
    if (!page.isCourt()) return STATE;
    now.read(page);
    page.length = 0;
    isKept = false;
    courts++;
    return now.parties;
  }

  // ---- parties, tiles

  public int party(int party, int what) {
    if (!now.has(party)) return UNKNOWN;
    switch (what) {
      case 0: return now.kinds[party].number;
      case 1: return now.high[party];
      case 2: return now.tile[party];
      case 3: return now.shade(party, now.hour);
      case 4: return now.worthOf(now.shade(party, now.hour));
      case 5: return sight.heights(now, party);
      case 6: return sight.look(now, party);
      default: return OUTSIDE;
    }
  }

  public int as(int party, int kind) {
    if (!now.has(party)) return UNKNOWN;
    switch (kind) {
      case KIND_PARTY: return party;
      case KIND_HAT: return now.kinds[party] instanceof Hat ? party : NONE;
      case KIND_THIN: return now.kinds[party] instanceof Thin ? party : NONE;
      case KIND_CHILD: return now.kinds[party] instanceof Child ? party : NONE;
      case KIND_PLUME: return now.kinds[party] instanceof Plume ? party : NONE;
      default: return OUTSIDE;
    }
  }

  public int covers(int party, int hour) {
    if (!now.has(party)) return UNKNOWN;
    if (!isHour(hour)) return OUTSIDE;
    return now.shade(party, hour);
  }

  public int tile(int tile, int what) {
    if (!now.hasTile(tile)) return UNKNOWN;
    switch (what) {
      case 0: return now.worth[tile];
      case 1: return now.standingOn(tile);
      case 2: return now.covering(tile);
      default: return OUTSIDE;
    }
  }

  public int found(int a, int b, int hour) {
    if (!now.hasTwo(a, b)) return UNKNOWN;
    if (!isHour(hour)) return OUTSIDE;
    return now.balance(a, b, hour) + FOUND_MORE;
  }

  // ---- what is done

  public int tick() {
    if (now.isNone()) return STATE;
    boolean isLast = now.hour == HOURS - 1;
    if (isLast && now.days + 1 >= MOST_DAYS) return FULL;
    if (isLast) now.days++;
    now.hour = isLast ? 0 : now.hour + 1;
    return now.hour;
  }

  public int step(int party, int step) {
    if (!now.has(party)) return UNKNOWN;
    if (step != -1 && step != 1) return OUTSIDE;
    int to = now.tile[party] + step;
    if (!isTile(to)) return STATE;
    now.tile[party] = to;
    return to;
  }

  public int stand(int party, int tile) {
    if (!now.has(party) || !isTile(tile)) return UNKNOWN;
    int stood = now.tile[party];
    now.tile[party] = tile;
    return stood;
  }

  public int rise(int party, int high) {
    if (!now.has(party)) return UNKNOWN;
    if (!within(high, 1, HIGHEST)) return OUTSIDE;
    int was = now.high[party];
    now.high[party] = high;
    return was;
  }

  public int lay(int tile, int worth) {
    if (!now.hasTile(tile)) return UNKNOWN;
    if (!within(worth, 0, 9)) return OUTSIDE;
    int had = now.worth[tile];
    now.worth[tile] = worth;
    return had;
  }

  public int file(int a, int b) {
    if (!now.hasTwo(a, b)) return UNKNOWN;
    if (now.cases >= MOST_CASES) return FULL;
    now.caseFirst[now.cases] = a;
    now.caseOther[now.cases] = b;
    now.cases++;
    return now.cases;
  }

  public int settle() {
    int were = now.cases;
    now.cases = 0;
    return were;
  }

  // ---- what would be

  public int game(int a, int b, int hours, int what) {
    if (!now.hasTwo(a, b)) return UNKNOWN;
    if (!within(hours, 1, MOST_GAME_HOURS) || !within(what, 0, 1)) return OUTSIDE;
    play.solve(now, a, b, hours);
    return what == 0 ? play.total + GAME_MORE : play.firstStep;
  }

  public int docket(int what) {
    boolean asksCase = within(what, 10, 9 + MOST_CASES);
    if (what != 0 && !asksCase) return OUTSIDE;
    if (now.isNone()) return STATE;
    list.set(now);
    if (!asksCase) return list.heard;
    return what - 10 < now.cases ? list.hourOf[what - 10] : NONE;
  }

  public int odds(int a, int b, int hours, int tenths, int what) {
    if (!now.hasTwo(a, b)) return UNKNOWN;
    if (!within(hours, 1, MOST_ODDS_HOURS) || !within(tenths, 0, 10) || !within(what, 0, 1)) return OUTSIDE;
    int above = 0;
    int below = 1;
    int cloudTillThen = 1;
    for (int ahead = 0; ahead < hours; ahead++) {
      boolean isForFirst = now.balance(a, b, (now.hour + ahead) % HOURS) > 0;
      above = above * 10 + (isForFirst ? cloudTillThen * (10 - tenths) : 0);
      below *= 10;
      cloudTillThen *= tenths;
    }
    return inLowestTerms(above, below, what == 0);
  }

  // ---- what is seen

  public int see(int party, int hour, int tile, boolean covers) {
    if (!now.has(party)) return UNKNOWN;
    if (!isHour(hour) || !isTile(tile)) return OUTSIDE;
    if (now.seen >= MOST_SEEN) return FULL;
    now.seenParty[now.seen] = party;
    now.seenHour[now.seen] = hour;
    now.seenTile[now.seen] = tile;
    now.seenCovers[now.seen] = covers ? 1 : 0;
    now.seen++;
    return now.seen;
  }

  public int forget() {
    int was = now.seen;
    now.seen = 0;
    return was;
  }

  public int terms(int times, int seed, int what) {
    if (!within(times, 1, MOST_TIMES) || seed < 0 || !within(what, 0, 2)) return OUTSIDE;
    if (now.isNone()) return STATE;
    draws.hold(now, times, seed);
    if (what == 0) return draws.forFirst;
    return what == 1 ? draws.stayed : (int) draws.seed;
  }

  // ---- what is told of all

  public int image() {
    if (now.isNone()) return STATE;
    kept.keepAllOf(now);
    isKept = true;
    return kept.hoursInAll();
  }

  public int restore() {
    if (!isKept) return STATE;
    now.keepAllOf(kept);
    return now.hoursInAll();
  }

  public int count(int what) {
    switch (what) {
      case 0: return now.parties;
      case 1: return now.hour;
      case 2: return now.days;
      case 3: return now.worthOf((1 << TILES) - 1);
      case 4: return now.tilesCoveredBy(1);
      case 5: return now.tilesCoveredBy(2);
      case 6: return now.cases;
      case 7: return now.casesAsTheyShouldBe();
      case 8: return now.seen;
      case 9: return page.length;
      case 10: return courts;
      default: return OUTSIDE;
    }
  }

  /** In one piece: with a step between, the calls would go deeper than LANGUAGE.md lets them. */
  public long digest() {
    long h = 1217;
    for (int party = 0; party < now.parties; party++) {
      for (int what = 0; what <= 6; what++) h = h * 31 + party(party, what);
      h = h * 31 + covers(party, 3);
      h = h * 31 + covers(party, 10);
    }
    if (!now.isNone()) {
      for (int tile = 0; tile < TILES; tile++) {
        for (int what = 0; what <= 2; what++) h = h * 31 + tile(tile, what);
      }
      for (int hour = 0; hour < HOURS; hour++) h = h * 31 + found(0, 1, hour);
      for (int what = 0; what <= 1; what++) h = h * 31 + game(0, 1, 2, what);
      for (int what = 0; what <= 1; what++) h = h * 31 + odds(0, 1, 4, 3, what);
      h = h * 31 + docket(0);
      for (int what = 10; what <= 14; what++) h = h * 31 + docket(what);
    }
    for (int place = 0; place < page.length; place++) h = h * 31 + page.letters[place];
    for (int what = 0; what <= 10; what++) h = h * 31 + count(what);
    return h;
  }

  /** Below is a power of 10, at most 10 to the 6, so that nothing but 2 and 5 can shorten the two. */
  private static int inLowestTerms(int above, int below, boolean tellsAbove) {
    int up = above;
    int down = below;
    for (int turn = 0; turn < MOST_ODDS_HOURS; turn++) {
      if (up % 2 == 0 && down % 2 == 0) {
        up /= 2;
        down /= 2;
      }
      if (up % 5 == 0 && down % 5 == 0) {
        up /= 5;
        down /= 5;
      }
    }
    return tellsAbove ? up : down;
  }

  private static boolean within(int number, int least, int most) {
    return number >= least && number <= most;
  }

  private static boolean isTile(int tile) {
    return tile >= 0 && tile < TILES;
  }

  private static boolean isHour(int hour) {
    return hour >= 0 && hour < HOURS;
  }

  /** THE PAGE: what may become a COURT. */
  private static final class Page {
    private static final int FIRST_PARTY = TILES + 1;
    private static final int PARTY_LETTERS = 4;
    private static final int LONGEST = FIRST_PARTY + MOST_PARTIES * PARTY_LETTERS - 1;
    private static final int SHORTEST = FIRST_PARTY + 2 * PARTY_LETTERS - 1;

    final char[] letters = new char[MOST_LETTERS];
    int length;

    int firstWrong() {
      int place = 0;
      while (place < length && fits(place)) place++;
      return place;
    }

    boolean isCourt() {
      return length >= SHORTEST && hasWholeParties() && firstWrong() == length;
    }

    /** As if a "," stood behind the last PARTY, too. */
    boolean hasWholeParties() {
      return (length + 1 - FIRST_PARTY) % PARTY_LETTERS == 0;
    }

    int parties() {
      return (length + 1 - FIRST_PARTY) / PARTY_LETTERS;
    }

    int digitOf(int party, int offset) {
      return letters[FIRST_PARTY + party * PARTY_LETTERS + offset] - '0';
    }

    Kind kindOf(int party) {
      switch (letters[FIRST_PARTY + party * PARTY_LETTERS]) {
        case 'h': return new Hat();
        case 't': return new Thin();
        case 'c': return new Child();
        case 'u': return new Plume();
        default: return new Kind(KIND_PARTY, 0);
      }
    }

    /** Every place of a COURT takes letters that do not hang on those ahead of it. */
    private boolean fits(int place) {
      char letter = letters[place];
      if (place < TILES) return within(letter, '0', '9');
      if (place == TILES) return letter == ';';
      if (place >= LONGEST) return false;
      switch ((place - FIRST_PARTY) % PARTY_LETTERS) {
        case 0: return "phtcu".indexOf(letter) >= 0;
        case 1: return within(letter, '1', '9');
        case 2: return within(letter, '0', '9');
        default: return letter == ',';
      }
    }
  }

  /** How a KIND of PARTY casts its SHADOW; this one is KIND 0, that all others are, too. */
  private static class Kind {
    final int number;
    final int higher;

    Kind(int number, int higher) {
      this.number = number;
      this.higher = higher;
    }

    int shade(int high, int tile, int hour) {
      int length = length(high, hour);
      return hour < NOON ? west(tile, length) : east(tile, length);
    }

    final int length(int high, int hour) {
      int fromNoon = hour < NOON ? NOON - hour : hour - NOON;
      return (high + higher) * fromNoon / 3;
    }

    static int west(int tile, int length) {
      int last = tile > length ? tile - length : 0;
      return (1 << tile) - (1 << last);
    }

    static int east(int tile, int length) {
      int last = tile + length < TILES ? tile + length : TILES - 1;
      return (1 << last + 1) - (1 << tile + 1);
    }
  }

  private static class Hat extends Kind {
    static final int HIGHER = 2;

    Hat() {
      this(KIND_HAT, HIGHER);
    }

    Hat(int number, int higher) {
      super(number, higher);
    }
  }

  private static final class Plume extends Hat {
    Plume() {
      super(KIND_PLUME, HIGHER + 2);
    }
  }

  private static final class Thin extends Kind {
    Thin() {
      super(KIND_THIN, 0);
    }

    int shade(int high, int tile, int hour) {
      int length = length(high, hour);
      int last = hour < NOON ? tile - length : tile + length;
      return length > 0 && isTile(last) ? 1 << last : 0;
    }
  }

  private static final class Child extends Kind {
    Child() {
      super(KIND_CHILD, 0);
    }

    int shade(int high, int tile, int hour) {
      int length = length(high, hour);
      return west(tile, length) | east(tile, length);
    }
  }

  /** THE COURT, or an IMAGE of it; without PARTIES there is no COURT. */
  private static final class Court {
    int parties;
    final Kind[] kinds = new Kind[MOST_PARTIES];
    final int[] high = new int[MOST_PARTIES];
    final int[] tile = new int[MOST_PARTIES];
    final int[] worth = new int[TILES];
    int hour;
    int days;
    int cases;
    final int[] caseFirst = new int[MOST_CASES];
    final int[] caseOther = new int[MOST_CASES];
    int seen;
    final int[] seenParty = new int[MOST_SEEN];
    final int[] seenHour = new int[MOST_SEEN];
    final int[] seenTile = new int[MOST_SEEN];
    final int[] seenCovers = new int[MOST_SEEN];

    void read(Page page) {
      for (int place = 0; place < TILES; place++) worth[place] = page.letters[place] - '0';
      parties = Math.min(page.parties(), MOST_PARTIES);
      for (int party = 0; party < parties; party++) {
        kinds[party] = page.kindOf(party);
        high[party] = page.digitOf(party, 1);
        tile[party] = page.digitOf(party, 2);
      }
      hour = 0;
      days = 0;
      cases = 0;
      seen = 0;
    }

    /** PARTIES and their KINDS never change in one COURT, and an IMAGE is of no other. */
    void keepAllOf(Court other) {
      copy(other.high, high);
      copy(other.tile, tile);
      copy(other.worth, worth);
      hour = other.hour;
      days = other.days;
      cases = other.cases;
      copy(other.caseFirst, caseFirst);
      copy(other.caseOther, caseOther);
      seen = other.seen;
      copy(other.seenParty, seenParty);
      copy(other.seenHour, seenHour);
      copy(other.seenTile, seenTile);
      copy(other.seenCovers, seenCovers);
    }

    private static void copy(int[] from, int[] to) {
      System.arraycopy(from, 0, to, 0, Math.min(from.length, to.length));
    }

    boolean isNone() {
      return parties == 0;
    }

    boolean has(int party) {
      return party >= 0 && party < parties && kinds[party] != null;
    }

    boolean hasTwo(int a, int b) {
      return has(a) && has(b) && a != b;
    }

    boolean hasTile(int number) {
      return !isNone() && isTile(number);
    }

    int hoursInAll() {
      return days * HOURS + hour;
    }

    int shade(int party, int at) {
      return has(party) ? kinds[party].shade(high[party], tile[party], at) : 0;
    }

    int shadeIf(int party, int isHigh, int onTile, int at) {
      return has(party) ? kinds[party].shade(isHigh, onTile, at) : 0;
    }

    int worthOf(int tiles) {
      int sum = 0;
      for (int place = 0; place < TILES; place++) {
        if ((tiles >> place & 1) != 0) sum += worth[place];
      }
      return sum;
    }

    /** More than 0: FOUND for a. What both COVER would be added and taken off alike, so it is left in. */
    int balance(int a, int b, int at) {
      return worthOf(shade(a, at)) - worthOf(shade(b, at));
    }

    int standingOn(int place) {
      int who = 0;
      for (int party = 0; party < parties; party++) {
        if (tile[party] == place) who |= 1 << party;
      }
      return who;
    }

    int covering(int place) {
      int who = 0;
      for (int party = 0; party < parties; party++) {
        if ((shade(party, hour) >> place & 1) != 0) who |= 1 << party;
      }
      return who;
    }

    int tilesCoveredBy(int least) {
      int tiles = 0;
      for (int place = 0; place < TILES; place++) {
        if (Integer.bitCount(covering(place)) >= least) tiles++;
      }
      return tiles;
    }

    int casesAsTheyShouldBe() {
      int right = 0;
      for (int number = 0; number < cases; number++) {
        if (balance(caseFirst[number], caseOther[number], hour) > 0) right++;
      }
      return right;
    }
  }

  /** HEIGHTS and LOOK. */
  private static final class Sight {
    private final int[] shades = new int[HIGHEST + 1];

    int heights(Court court, int party) {
      int bits = 0;
      for (int high = 1; high <= HIGHEST; high++) {
        if (isAsSeen(court, party, high)) bits |= 1 << high - 1;
      }
      return bits;
    }

    private boolean isAsSeen(Court court, int party, int high) {
      for (int number = 0; number < court.seen; number++) {
        if (court.seenParty[number] != party) continue;
        int shade = court.shadeIf(party, high, court.tile[party], court.seenHour[number]);
        if ((shade >> court.seenTile[number] & 1) != court.seenCovers[number]) return false;
      }
      return true;
    }

    int look(Court court, int party) {
      int heights = heights(court, party);
      if (heights == 0) return NONE;
      int best = NONE;
      int fewest = HIGHEST + 1;
      for (int hour = 0; hour < HOURS; hour++) {
        for (int high = 1; high <= HIGHEST; high++) {
          shades[high] = court.shadeIf(party, high, court.tile[party], hour);
        }
        for (int tile = 0; tile < TILES; tile++) {
          int left = leftAtWorst(heights, tile);
          if (left < fewest) {
            fewest = left;
            best = hour * 10 + tile;
          }
        }
      }
      return best;
    }

    private int leftAtWorst(int heights, int tile) {
      int covering = 0;
      for (int high = 1; high <= HIGHEST; high++) {
        covering += heights >> high - 1 & shades[high] >> tile & 1;
      }
      return Math.max(covering, Integer.bitCount(heights) - covering);
    }
  }

  /** GAME: from the last HOUR back, for every two TILES, what is added up yet if both do as well as can be. */
  private static final class Game {
    private final int[] worthA = new int[TILES];
    private final int[] worthB = new int[TILES];
    private final int[] ahead = new int[TILES * TILES];
    private final int[] behind = new int[TILES * TILES];
    int total;
    int firstStep;

    void solve(Court court, int a, int b, int hours) {
      for (int place = 0; place < TILES * TILES; place++) behind[place] = 0;
      for (int gone = hours - 1; gone > 0; gone--) {
        weigh(court, a, b, (court.hour + gone) % HOURS);
        goBackAnHour();
      }
      weigh(court, a, b, court.hour);
      firstStep = bestStep(court.tile[a], court.tile[b]);
      total = afterAStood(court.tile[a] + firstStep - 1, court.tile[b]);
    }

    private void weigh(Court court, int a, int b, int hour) {
      for (int tile = 0; tile < TILES; tile++) {
        worthA[tile] = court.worthOf(court.shadeIf(a, court.high[a], tile, hour));
        worthB[tile] = court.worthOf(court.shadeIf(b, court.high[b], tile, hour));
      }
    }

    private void goBackAnHour() {
      for (int tileA = 0; tileA < TILES; tileA++) {
        for (int tileB = 0; tileB < TILES; tileB++) {
          int to = tileA + bestStep(tileA, tileB) - 1;
          ahead[tileA * TILES + tileB] = afterAStood(to, tileB);
        }
      }
      System.arraycopy(ahead, 0, behind, 0, TILES * TILES);
    }

    private int bestStep(int tileA, int tileB) {
      int best = 1;
      int most = -GAME_MORE;
      for (int step = 0; step <= 2; step++) {
        int to = tileA + step - 1;
        if (!mayStand(tileA, to, tileB)) continue;
        int then = afterAStood(to, tileB);
        if (then > most) {
          most = then;
          best = step;
        }
      }
      return best;
    }

    private int afterAStood(int tileA, int tileB) {
      int least = GAME_MORE;
      for (int to = tileB - 1; to <= tileB + 1; to++) {
        if (!mayStand(tileB, to, tileA)) continue;
        least = Math.min(least, worthA[tileA] - worthB[to] + behind[tileA * TILES + to]);
      }
      return least;
    }

    private static boolean mayStand(int from, int to, int other) {
      return isTile(to) && (to == from || to != other);
    }
  }

  /** DOCKET: CASES get HOURS in turn, each the first that leaves as many for the others as can be heard. */
  private static final class Docket {
    private final int[] rightHours = new int[MOST_CASES];
    private int cases;
    final int[] hourOf = new int[MOST_CASES];
    int heard;

    void set(Court court) {
      cases = court.cases;
      for (int number = 0; number < cases; number++) {
        rightHours[number] = hoursForFirst(court, court.caseFirst[number], court.caseOther[number]);
      }
      int free = (1 << HOURS) - 1;
      heard = mostFrom(0, free);
      int toHear = heard;
      for (int number = 0; number < cases; number++) {
        hourOf[number] = firstHour(number, free, toHear);
        if (hourOf[number] == NONE) continue;
        free &= ~(1 << hourOf[number]);
        toHear--;
      }
    }

    private static int hoursForFirst(Court court, int first, int other) {
      int hours = 0;
      for (int hour = 0; hour < HOURS; hour++) {
        if (court.balance(first, other, hour) > 0) hours |= 1 << hour;
      }
      return hours;
    }

    private int firstHour(int number, int free, int toHear) {
      if (mostFrom(number + 1, free) >= toHear) return NONE;
      for (int hour = 0; hour < HOURS; hour++) {
        int bit = 1 << hour;
        if ((rightHours[number] & free & bit) == 0) continue;
        if (1 + mostFrom(number + 1, free & ~bit) >= toHear) return hour;
      }
      return NONE;
    }

    /** By Hall's theorem: all CASES but as many as the tightest group of them has more CASES than HOURS. */
    private int mostFrom(int first, int free) {
      int rest = cases - first;
      int most = Math.max(rest, 0);
      for (int group = 1; group < 1 << rest; group++) {
        int hours = 0;
        for (int member = 0; member < rest; member++) {
          if ((group >> member & 1) != 0) hours |= rightHours[first + member];
        }
        int shortOf = Integer.bitCount(group) - Integer.bitCount(hours & free);
        most = Math.min(most, rest - shortOf);
      }
      return most;
    }
  }

  /** TERMS by a SEED. */
  private static final class Terms {
    long seed;
    int forFirst;
    int stayed;

    void hold(Court court, int times, int firstSeed) {
      seed = firstSeed;
      forFirst = 0;
      stayed = 0;
      for (int time = 0; time < times; time++) {
        int a = draw(court.parties);
        int b = draw(court.parties);
        int hour = draw(HOURS);
        if (a == b) continue;
        int balance = court.balance(a, b, hour);
        if (balance > 0) forFirst++;
        if (balance == 0) stayed++;
      }
    }

    private int draw(int of) {
      seed = (seed * 1103515245L + 12345L) % (1L << 31);
      return of < 1 ? 0 : (int) (seed / 65536 % of);
    }
  }
}
