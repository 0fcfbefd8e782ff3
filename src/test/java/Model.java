import java.math.BigInteger;
import java.util.ArrayList;
import java.util.Arrays;
import java.util.List;
import java.util.TreeSet;
import java.util.regex.Matcher;
import java.util.regex.Pattern;

/** The document once more, in its plainest and slowest form, to be compared with the class. */
final class Model {
  private static final int NONE = -1, UNKNOWN = -101, OUTSIDE = -102, STATE = -103, FULL = -104;
  private static final Pattern COURT = Pattern.compile("[0-9]{10};[phtcu][1-9][0-9](,[phtcu][1-9][0-9]){1,4}");

  /** All that an image keeps. */
  private static final class Kept {
    List<Integer> highs = new ArrayList<>();
    List<Integer> tiles = new ArrayList<>();
    List<Integer> worths = new ArrayList<>();
    List<int[]> cases = new ArrayList<>();
    List<int[]> seen = new ArrayList<>();
    int hours;

    Kept copy() {
      Kept copy = new Kept();
      copy.highs = new ArrayList<>(highs);
      copy.tiles = new ArrayList<>(tiles);
      copy.worths = new ArrayList<>(worths);
      copy.cases = new ArrayList<>(cases);
      copy.seen = new ArrayList<>(seen);
      copy.hours = hours;
      return copy;
    }
  }

  private String page = "";
  private String kinds = "";
  private Kept now = new Kept();
  private Kept image;
  private int courts;

  int letter(int code) {
    if (code < 32 || code > 126) return OUTSIDE;
    if (page.length() == 34) return FULL;
    page += (char) code;
    return page.length();
  }

  int blank() {
    int had = page.length();
    page = "";
    return had;
  }

  int fault() {
    for (int length = 1; length <= page.length(); length++) {
      Matcher matcher = COURT.matcher(page.substring(0, length));
      if (!matcher.matches() && !matcher.hitEnd()) return length - 1;
    }
    return page.length();
  }

  int court() {
    if (!COURT.matcher(page).matches()) return STATE;
    String[] parts = page.split(";");
    now = new Kept();
    for (char digit : parts[0].toCharArray()) now.worths.add(digit - '0');
    kinds = "";
    for (String party : parts[1].split(",")) {
      kinds += party.charAt(0);
      now.highs.add(party.charAt(1) - '0');
      now.tiles.add(party.charAt(2) - '0');
    }
    page = "";
    image = null;
    courts++;
    return kinds.length();
  }

  private boolean has(int party) {
    return party >= 0 && party < kinds.length();
  }

  private boolean hasTwo(int a, int b) {
    return has(a) && has(b) && a != b;
  }

  private boolean noCourt() {
    return kinds.isEmpty();
  }

  private int hour() {
    return now.hours % 13;
  }

  private static TreeSet<Integer> shadow(char kind, int high, int tile, int hour) {
    int counted = high + (kind == 'h' ? 2 : 0) + (kind == 'u' ? 4 : 0);
    int length = counted * (hour < 6 ? 6 - hour : hour - 6) / 3;
    int way = hour < 6 ? -1 : 1;
    TreeSet<Integer> tiles = new TreeSet<>();
    for (int far = 1; far <= length; far++) {
      if (kind == 't' && far < length) continue;
      tiles.add(tile + way * far);
      if (kind == 'c') tiles.add(tile - way * far);
    }
    tiles.removeIf(each -> each < 0 || each > 9);
    return tiles;
  }

  private TreeSet<Integer> shadow(int party, int hour) {
    return shadow(kinds.charAt(party), now.highs.get(party), now.tiles.get(party), hour);
  }

  private static int bits(TreeSet<Integer> tiles) {
    int bits = 0;
    for (int tile : tiles) bits += 1 << tile;
    return bits;
  }

  private int worthOf(TreeSet<Integer> tiles) {
    int sum = 0;
    for (int tile : tiles) sum += now.worths.get(tile);
    return sum;
  }

  private int found(TreeSet<Integer> ofA, TreeSet<Integer> ofB) {
    TreeSet<Integer> onlyA = new TreeSet<>(ofA);
    onlyA.removeAll(ofB);
    TreeSet<Integer> onlyB = new TreeSet<>(ofB);
    onlyB.removeAll(ofA);
    return worthOf(onlyA) - worthOf(onlyB);
  }

  private int foundOf(int a, int b, int hour) {
    return found(shadow(a, hour), shadow(b, hour));
  }

  int party(int party, int what) {
    if (!has(party)) return UNKNOWN;
    switch (what) {
      case 0: return "phtcu".indexOf(kinds.charAt(party));
      case 1: return now.highs.get(party);
      case 2: return now.tiles.get(party);
      case 3: return bits(shadow(party, hour()));
      case 4: return worthOf(shadow(party, hour()));
      case 5: return heights(party, now.seen);
      case 6: return look(party);
      default: return OUTSIDE;
    }
  }

  private int heights(int party, List<int[]> seen) {
    int bits = 0;
    for (int high = 1; high <= 9; high++) {
      boolean fits = true;
      for (int[] one : seen) {
        if (one[0] != party) continue;
        boolean covers = shadow(kinds.charAt(party), high, now.tiles.get(party), one[1]).contains(one[2]);
        fits &= covers == (one[3] == 1);
      }
      if (fits) bits += 1 << (high - 1);
    }
    return bits;
  }

  private int look(int party) {
    if (heights(party, now.seen) == 0) return NONE;
    int best = NONE;
    int fewest = 100;
    for (int place = 0; place < 130; place++) {
      int worst = 0;
      for (int answer = 0; answer < 2; answer++) {
        List<int[]> then = new ArrayList<>(now.seen);
        then.add(new int[] {party, place / 10, place % 10, answer});
        worst = Math.max(worst, Integer.bitCount(heights(party, then)));
      }
      if (worst < fewest) {
        fewest = worst;
        best = place;
      }
    }
    return best;
  }

  int as(int party, int kind) {
    if (!has(party)) return UNKNOWN;
    if (kind < 0 || kind > 4) return OUTSIDE;
    String[] are = {"phtcu", "hu", "t", "c", "u"};
    return are[kind].indexOf(kinds.charAt(party)) >= 0 ? party : NONE;
  }

  int covers(int party, int hour) {
    if (!has(party)) return UNKNOWN;
    return hour < 0 || hour > 12 ? OUTSIDE : bits(shadow(party, hour));
  }

  int tile(int tile, int what) {
    if (noCourt() || tile < 0 || tile > 9) return UNKNOWN;
    if (what < 0 || what > 2) return OUTSIDE;
    if (what == 0) return now.worths.get(tile);
    int who = 0;
    for (int party = 0; party < kinds.length(); party++) {
      boolean is = what == 1 ? now.tiles.get(party) == tile : shadow(party, hour()).contains(tile);
      if (is) who += 1 << party;
    }
    return who;
  }

  int found(int a, int b, int hour) {
    if (!hasTwo(a, b)) return UNKNOWN;
    return hour < 0 || hour > 12 ? OUTSIDE : 100 + foundOf(a, b, hour);
  }

  int tick() {
    if (noCourt()) return STATE;
    if (now.hours + 1 == 1300) return FULL;
    now.hours++;
    return hour();
  }

  int step(int party, int step) {
    if (!has(party)) return UNKNOWN;
    if (Math.abs((long) step) != 1) return OUTSIDE;
    int to = now.tiles.get(party) + step;
    if (to < 0 || to > 9) return STATE;
    now.tiles.set(party, to);
    return to;
  }

  int stand(int party, int tile) {
    return has(party) && tile >= 0 && tile <= 9 ? now.tiles.set(party, tile) : UNKNOWN;
  }

  int rise(int party, int high) {
    if (!has(party)) return UNKNOWN;
    return high < 1 || high > 9 ? OUTSIDE : now.highs.set(party, high);
  }

  int lay(int tile, int worth) {
    if (noCourt() || tile < 0 || tile > 9) return UNKNOWN;
    return worth < 0 || worth > 9 ? OUTSIDE : now.worths.set(tile, worth);
  }

  int file(int a, int b) {
    if (!hasTwo(a, b)) return UNKNOWN;
    if (now.cases.size() == 5) return FULL;
    now.cases.add(new int[] {a, b});
    return now.cases.size();
  }

  int settle() {
    int were = now.cases.size();
    now.cases.clear();
    return were;
  }

  int game(int a, int b, int hours, int what) {
    if (!hasTwo(a, b)) return UNKNOWN;
    if (hours < 1 || hours > 4 || what < 0 || what > 1) return OUTSIDE;
    int[] best = ofA(a, b, now.tiles.get(a), now.tiles.get(b), hour(), hours);
    return what == 0 ? 500 + best[0] : best[1];
  }

  private static boolean bars(int from, int step, int other) {
    int to = from + step;
    return to < 0 || to > 9 || (step != 0 && to == other);
  }

  private int[] ofA(int a, int b, int tileA, int tileB, int hour, int hours) {
    if (hours == 0) return new int[] {0, NONE};
    int[] best = null;
    for (int step = -1; step <= 1; step++) {
      if (bars(tileA, step, tileB)) continue;
      int much = ofB(a, b, tileA + step, tileB, hour, hours);
      if (best == null || much > best[0]) best = new int[] {much, step + 1};
    }
    return best;
  }

  private int ofB(int a, int b, int tileA, int tileB, int hour, int hours) {
    Integer least = null;
    for (int step = -1; step <= 1; step++) {
      if (bars(tileB, step, tileA)) continue;
      int much = found(shadow(kinds.charAt(a), now.highs.get(a), tileA, hour),
          shadow(kinds.charAt(b), now.highs.get(b), tileB + step, hour));
      much += ofA(a, b, tileA, tileB + step, (hour + 1) % 13, hours - 1)[0];
      if (least == null || much < least) least = much;
    }
    return least;
  }

  int docket(int what) {
    if (what != 0 && (what < 10 || what > 14)) return OUTSIDE;
    if (noCourt()) return STATE;
    int[] best = new int[6];
    Arrays.fill(best, NONE);
    assign(0, 0, new int[6], best);
    return what == 0 ? best[5] : best[what - 10];
  }

  /** Tries all in order, NONE ahead of all, and keeps the first of those in which most are heard. */
  private void assign(int number, int heard, int[] hours, int[] best) {
    int left = now.cases.size() - number;
    if (heard + left <= best[5]) return;
    if (left == 0) {
      System.arraycopy(hours, 0, best, 0, now.cases.size());
      best[5] = heard;
      return;
    }
    for (int hour = NONE; hour < 13; hour++) {
      boolean clash = false;
      for (int other = 0; other < number; other++) clash |= hour != NONE && hours[other] == hour;
      if (clash) continue;
      int[] parties = now.cases.get(number);
      boolean right = hour != NONE && foundOf(parties[0], parties[1], hour) > 0;
      hours[number] = hour;
      assign(number + 1, heard + (right ? 1 : 0), hours, best);
    }
  }

  int odds(int a, int b, int hours, int tenths, int what) {
    if (!hasTwo(a, b)) return UNKNOWN;
    if (hours < 1 || hours > 6 || tenths < 0 || tenths > 10 || what < 0 || what > 1) return OUTSIDE;
    long above = 0;
    for (int sky = 0; sky < 1 << hours; sky++) {
      long parts = 1;
      int first = NONE;
      for (int ahead = hours - 1; ahead >= 0; ahead--) {
        boolean cloud = (sky >> ahead & 1) != 0;
        parts *= cloud ? tenths : 10 - tenths;
        if (!cloud) first = ahead;
      }
      if (first != NONE && foundOf(a, b, (hour() + first) % 13) > 0) above += parts;
    }
    BigInteger up = BigInteger.valueOf(above);
    BigInteger down = BigInteger.TEN.pow(hours);
    BigInteger common = up.gcd(down);
    return (what == 0 ? up : down).divide(common).intValueExact();
  }

  int see(int party, int hour, int tile, boolean covers) {
    if (!has(party)) return UNKNOWN;
    if (hour < 0 || hour > 12 || tile < 0 || tile > 9) return OUTSIDE;
    if (now.seen.size() == 8) return FULL;
    now.seen.add(new int[] {party, hour, tile, covers ? 1 : 0});
    return now.seen.size();
  }

  int forget() {
    int was = now.seen.size();
    now.seen.clear();
    return was;
  }

  int terms(int times, int seed, int what) {
    if (times < 1 || times > 60 || seed < 0 || what < 0 || what > 2) return OUTSIDE;
    if (noCourt()) return STATE;
    BigInteger next = BigInteger.valueOf(seed);
    int[] told = new int[3];
    for (int time = 0; time < times; time++) {
      int[] drawn = new int[3];
      for (int number = 0; number < 3; number++) {
        next = next.multiply(BigInteger.valueOf(1103515245)).add(BigInteger.valueOf(12345))
            .mod(BigInteger.TWO.pow(31));
        int of = number < 2 ? kinds.length() : 13;
        drawn[number] = next.divide(BigInteger.valueOf(65536)).mod(BigInteger.valueOf(of)).intValueExact();
      }
      if (drawn[0] == drawn[1]) continue;
      int found = foundOf(drawn[0], drawn[1], drawn[2]);
      if (found >= 0) told[found > 0 ? 0 : 1]++;
    }
    told[2] = next.intValueExact();
    return told[what];
  }

  int image() {
    if (noCourt()) return STATE;
    image = now.copy();
    return now.hours;
  }

  int restore() {
    if (image == null) return STATE;
    now = image.copy();
    return now.hours;
  }

  int count(int what) {
    switch (what) {
      case 0: return kinds.length();
      case 1: return hour();
      case 2: return now.hours / 13;
      case 3: return now.worths.stream().mapToInt(Integer::intValue).sum();
      case 4: return tilesCoveredBy(1);
      case 5: return tilesCoveredBy(2);
      case 6: return now.cases.size();
      case 7: return (int) now.cases.stream().filter(each -> foundOf(each[0], each[1], hour()) > 0).count();
      case 8: return now.seen.size();
      case 9: return page.length();
      case 10: return courts;
      default: return OUTSIDE;
    }
  }

  private int tilesCoveredBy(int least) {
    int tiles = 0;
    for (int tile = 0; tile < 10; tile++) {
      int who = 0;
      for (int party = 0; party < kinds.length(); party++) if (shadow(party, hour()).contains(tile)) who++;
      if (who >= least) tiles++;
    }
    return tiles;
  }

  long digest() {
    List<Integer> numbers = new ArrayList<>();
    for (int party = 0; party < kinds.length(); party++) {
      for (int what = 0; what <= 6; what++) numbers.add(party(party, what));
      numbers.add(covers(party, 3));
      numbers.add(covers(party, 10));
    }
    if (!noCourt()) {
      for (int tile = 0; tile < 10; tile++) for (int what = 0; what <= 2; what++) numbers.add(tile(tile, what));
      for (int hour = 0; hour < 13; hour++) numbers.add(found(0, 1, hour));
      numbers.addAll(List.of(game(0, 1, 2, 0), game(0, 1, 2, 1), odds(0, 1, 4, 3, 0), odds(0, 1, 4, 3, 1)));
      for (int what : new int[] {0, 10, 11, 12, 13, 14}) numbers.add(docket(what));
    }
    for (char letter : page.toCharArray()) numbers.add((int) letter);
    for (int what = 0; what <= 10; what++) numbers.add(count(what));
    long h = 1217;
    for (int number : numbers) h = 31 * h + number;
    return h;
  }
}
