/**
 * The sentences ahead of the promises that name a boundary case: under 1 and "Terms" what a COURT is, HOURS, SHADOWS
 * and what is FOUND; under 2 GAME, DOCKET, ODDS; under 3 SEEN, HEIGHTS, LOOK, TERMS, IMAGE. A sentence is told ahead
 * of what tests it.
 */
public final class TermsEdgeTest {
  private static final Check CHECK = new Check("TermsEdgeTest");
  private static final int NONE = ShadowCourt.NONE;

  /** A row for each number that is counted (HIGH, and what a HAT adds), from 1 to 13; by HOURS from 6, 1 to 6. */
  private static final int[][] LENGTHS = {
    {0, 0, 1, 1, 1, 2}, {0, 1, 2, 2, 3, 4}, {1, 2, 3, 4, 5, 6}, {1, 2, 4, 5, 6, 8}, {1, 3, 5, 6, 8, 10},
    {2, 4, 6, 8, 10, 12}, {2, 4, 7, 9, 11, 14}, {2, 5, 8, 10, 13, 16}, {3, 6, 9, 12, 15, 18}, {3, 6, 10, 13, 16, 20},
    {3, 7, 11, 14, 18, 22}, {4, 8, 12, 16, 20, 24}, {4, 8, 13, 17, 21, 26}};

  public static void main(String[] args) {
    aCourt();
    tilesAndParties();
    hours();
    lengths();
    ownTile();
    foundOrStayed();
    games();
    gameSteps();
    dockets();
    docketHours();
    odds();
    heights();
    looks();
    terms();
    images();
    CHECK.end();
  }

  private static void reads(String page, boolean isCourt, int fault) {
    ShadowCourt court = new ShadowCourt();
    Courts.type(court, page);
    CHECK.same("fault() of " + page, court.fault(), fault);
    CHECK.isTrue("court() of " + page + " is as due", court.court() >= 0 == isCourt);
  }

  private static void aCourt() {
    // "ten digits, the WORTH of TILES 0 (west) to 9 (east), 0 to 9 each; then ';'"
    reads("0000000000;p11,p12", true, 18);
    reads("9999999999;p11,p12", true, 18);
    reads("999999999;p11,p12", false, 9);
    reads("99999999999;p11,p12", false, 10);
    for (int place = 0; place < 10; place++) {
      String page = "0123456789;p11,p12";
      reads(page.substring(0, place) + "/" + page.substring(place + 1), false, place);
      reads(page.substring(0, place) + ":" + page.substring(place + 1), false, place);
    }
    reads("0123456789:p11,p12", false, 10);
    reads("0123456789<p11,p12", false, 10);
    // "and two to five PARTIES (numbered from 0) with ',' between"
    reads("0123456789;p11", false, 14);
    reads("0123456789;p11,p12", true, 18);
    reads("0123456789;p11,p12,p13,p14,p15", true, 30);
    reads("0123456789;p11,p12,p13,p14,p15,p16", false, 30);
    reads("0123456789;p11;p12", false, 14);
    reads("0123456789;p11+p12", false, 14);
    reads("0123456789;p11-p12", false, 14);
    reads("0123456789;p11p12", false, 14);
    reads("0123456789;,p11,p12", false, 11);
    reads("0123456789;p11,p12,", false, 19);
    // "each a letter, the KIND"
    for (int code = 32; code <= 126; code++) {
      boolean isKind = "phtcu".indexOf(code) >= 0;
      reads("0123456789;" + (char) code + "11,p12", isKind, isKind ? 18 : 11);
      reads("0123456789;p12," + (char) code + "11", isKind, isKind ? 18 : 15);
    }
    // "and two digits, how HIGH it is (1 to 9), and its TILE"
    for (char code = ' '; code <= '~'; code++) {
      boolean isHigh = code >= '1' && code <= '9';
      boolean isTile = code >= '0' && code <= '9';
      reads("0123456789;p11,p" + code + "2", isHigh, isHigh ? 18 : 16);
      reads("0123456789;p11,p1" + code, isTile, isTile ? 18 : 17);
    }
  }

  private static void tilesAndParties() {
    // "TILES 0 (west) to 9 (east)": ahead of 6 a SHADOW falls to the west, behind it to the east.
    ShadowCourt court = Courts.of("1000000007;p31,p38");
    CHECK.same("worth of the tile in the west", court.tile(0, 0), 1);
    CHECK.same("worth of the tile in the east", court.tile(9, 0), 7);
    CHECK.same("it covers the tile in the west", court.covers(0, 5), 1);
    CHECK.same("it covers the tile in the east", court.covers(1, 7), 512);
    CHECK.same("no worth", Courts.of("0000000000;p11,p12").count(3), 0);
    CHECK.same("all worth", Courts.of("9999999999;p11,p12").count(3), 90);
    // "PARTIES may stand on one TILE"
    ShadowCourt one = Courts.of("0000000000;p19,h19,t19,c19,u19");
    CHECK.same("all on one tile", one.tile(9, 1), 31);
    CHECK.same("none on another", one.tile(8, 1), 0);
    CHECK.same("step of the last party", one.step(4, -1), 8);
    CHECK.same("step to it", one.step(0, -1), 8);
    CHECK.same("the two on a tile", one.tile(8, 1), 17);
    CHECK.same("stand where they are", one.stand(2, 8), 9);
    CHECK.same("the three on a tile", one.tile(8, 1), 21);
  }

  private static void hours() {
    // "At first there is none; then it is HOUR 0."
    ShadowCourt court = new ShadowCourt();
    CHECK.same("parties at first", court.count(0), 0);
    Courts.type(court, "1111111111;c95,p99,t85,u20,h31");
    court.court();
    CHECK.same("hour of a new court", court.count(1), 0);
    CHECK.same("day of a new court", court.count(2), 0);
    // "HOURS are 0 to 12 (0 comes behind 12, on another DAY)"
    for (int ticks = 0; ticks <= 40; ticks++) {
      int hour = ticks % 13;
      CHECK.same("hour", court.count(1), hour);
      CHECK.same("day", court.count(2), ticks < 13 ? 0 : ticks < 26 ? 1 : ticks < 39 ? 2 : 3);
      for (int party = 0; party < 5; party++) {
        CHECK.same("covers now, at " + hour, court.party(party, 3), court.covers(party, hour));
      }
      court.tick();
    }
  }

  private static int tilesFrom(int first, int last) {
    int bits = 0;
    for (int tile = Math.max(first, 0); tile <= Math.min(last, 9); tile++) bits |= 1 << tile;
    return bits;
  }

  private static int shade(char kind, int length, int tile, boolean isWest) {
    int west = tilesFrom(tile - length, tile - 1);
    int east = tilesFrom(tile + 1, tile + length);
    if (kind == 'c') return west | east;
    if (kind == 't' && length == 0) return 0;
    if (kind == 't') return isWest ? tilesFrom(tile - length, tile - length) : tilesFrom(tile + length, tile + length);
    return isWest ? west : east;
  }

  private static void lengths() {
    // "as many TILES long as it is HIGH, times by how many HOURS it is from 6, a third of that, rounded down; a HAT's
    // as if it was 2 HIGHER, a PLUME's as if 2 HIGHER yet. Ahead of 6 it falls on TILES to the west of its own, next
    // ones first, behind 6 to the east (its own not); what is beyond the floor is nowhere. Of a THIN one just the last
    // TILE that it reaches, counted so long, is COVERED (none, if that is beyond the floor); a CHILD COVERS as many to
    // the east and to the west."
    for (char kind : "phtcu".toCharArray()) {
      int more = kind == 'h' ? 2 : kind == 'u' ? 4 : 0;
      for (int place = 0; place < 90; place++) {
        int high = 1 + place / 10;
        int tile = place % 10;
        ShadowCourt court = Courts.of("0000000000;p11," + kind + high + tile);
        for (int far = 1; far <= 6; far++) {
          int length = LENGTHS[high + more - 1][far - 1];
          String who = kind + "" + high + tile + " covers, hours from 6: " + far;
          CHECK.same(who + " ahead", court.covers(1, 6 - far), shade(kind, length, tile, true));
          CHECK.same(who + " behind", court.covers(1, 6 + far), shade(kind, length, tile, false));
        }
        CHECK.same(kind + " covers nothing at 6", court.covers(1, 6), 0);
      }
    }
  }

  private static void ownTile() {
    // "(its own not)", and the last TILE of a THIN one at both edges of the floor, and just beyond.
    for (char kind : "phtcu".toCharArray()) {
      ShadowCourt court = Courts.of("0000000000;p11," + kind + "94");
      for (int hour = 0; hour <= 12; hour++) {
        CHECK.same(kind + " covers its own at " + hour, court.covers(1, hour) >> 4 & 1, 0);
      }
    }
    ShadowCourt thin = Courts.of("0000000000;t33,t36");
    CHECK.same("the last tile is 0", thin.covers(0, 3), 1);
    CHECK.same("the last tile is beyond 0", thin.covers(0, 2), 0);
    CHECK.same("the last tile is 9", thin.covers(1, 9), 512);
    CHECK.same("the last tile is beyond 9", thin.covers(1, 10), 0);
    CHECK.same("party() of a tile beyond 0", Courts.at("9999999999;t33,t36", 2).party(0, 4), 0);
  }

  private static void foundOf(int second, int found) {
    ShadowCourt court = Courts.at("1000000000;p11,p12", 3);
    court.lay(1, second);
    court.file(0, 1);
    court.file(1, 0);
    String told = "found is " + found + ": ";
    CHECK.same(told + "found()", court.found(0, 1, 3), 100 + found);
    CHECK.same(told + "found() of the other", court.found(1, 0, 3), 100 - found);
    CHECK.same(told + "cases as they should be", court.count(7), found == 0 ? 0 : 1);
    CHECK.same(told + "odds", court.odds(0, 1, 1, 0, 0), found > 0 ? 1 : 0);
    CHECK.same(told + "odds of the other", court.odds(1, 0, 1, 0, 0), found < 0 ? 1 : 0);
    court.settle();
    court.file(0, 1);
    CHECK.same(told + "docket", court.docket(0), found > 0 ? 1 : 0);
    CHECK.same(told + "hour of the case", court.docket(10), found > 0 ? 1 : NONE);
  }

  private static void foundOrStayed() {
    // "for the first one, if that is more than 0, for the other one, if less; else it is STAYED"; in the HOURS 1 to 3
    // 0 COVERS TILE 0, of WORTH 1, and 1 COVERS TILE 1; in 0 1 COVERS both, in 9 to 12 they COVER nothing of WORTH.
    foundOf(0, 1);
    foundOf(1, 0);
    foundOf(2, -1);
    // "all WORTH of TILES that the one COVERS, and not the other one, less all that this one does, and not the first"
    ShadowCourt court = Courts.of("5310000000;p12,p13");
    CHECK.same("0 and 1 against 1 and 2", court.found(0, 1, 0), 104);
    CHECK.same("1 and 2 against 0 and 1", court.found(1, 0, 0), 96);
    CHECK.same("all the same", Courts.of("5310000000;p12,p12").found(0, 1, 0), 100);
    CHECK.same("six tiles against none", Courts.of("9999999999;c94,p16").found(0, 1, 5), 154);
    CHECK.same("nine tiles of 9", Courts.of("9999999999;p99,p10").found(0, 1, 0), 181);
  }

  private static void game(String what, ShadowCourt court, int a, int b, int hours, int much, int step) {
    CHECK.same(what + ", how much", court.game(a, b, hours, 0), much);
    CHECK.same(what + ", first step", court.game(a, b, hours, 1), step);
    CHECK.same(what + ", how much again", court.game(a, b, hours, 0), much);
  }

  private static void games() {
    // "GAME of two for so many HOURS (1 to 4), from the HOUR it is now": from TILE 5, always to the west, 0 COVERS
    // TILE 0 in the HOURS 2 to 5; the other one is too far from it.
    ShadowCourt court = Courts.at("9000000000;p95,p19", 2);
    for (int hours = 1; hours <= 4; hours++) game("hours: " + hours, court, 0, 1, hours, 500 + 9 * hours, 0);
    for (int hours = 1; hours <= 4; hours++) {
      CHECK.same("for the other one, hours: " + hours, court.game(1, 0, hours, 0), 500 - 9 * hours);
    }
    court.tick();
    for (int hours = 1; hours <= 4; hours++) {
      CHECK.same("an hour later: " + hours, court.game(0, 1, hours, 0), 500 + 9 * Math.min(hours, 3));
    }
    // "and it is the next HOUR": 0 behind 12. Behind 6 TILE 0 is not COVERED.
    ShadowCourt late = Courts.at("9000000000;p11,p19", 11);
    game("11 and 12", late, 0, 1, 2, 500, 0);
    game("11 to 0", late, 0, 1, 3, 509, 0);
    game("11 to 1", late, 0, 1, 4, 518, 0);
    // What one GAME told does not last to the next one: from TILE 0 both, the other one COVERS all, wherever 0 steps.
    ShadowCourt both = Courts.at("9999999999;p90,p10", 9);
    CHECK.same("two hours first", both.game(1, 0, 2, 0), 500 - 72 - 72);
    game("then one", both, 1, 0, 1, 500 - 72, 1);
  }

  private static void gameSteps() {
    // "(on the floor": at the edges all is as good at HOUR 6, so that it would step to the west, if it could.
    game("at the edge in the west", Courts.at("9999999999;p10,p15", 6), 0, 1, 1, 500, 1);
    game("a tile from there", Courts.at("9999999999;p11,p15", 6), 0, 1, 1, 500, 0);
    // In HOUR 7 a THIN one on 8 COVERS 9, one on 9 nothing.
    game("at the edge in the east", Courts.at("0000000009;t39,p10", 7), 0, 1, 1, 509, 0);
    game("not beyond the edge", Courts.at("0000000009;t38,p10", 7), 0, 1, 1, 509, 1);
    // "and not to the TILE of the other one": 0 would COVER 4 from 5, but 1 is there; 1 would, but 0 is there.
    game("a has to stay off", Courts.at("0000900000;t36,p15", 5), 0, 1, 1, 500, 1);
    game("b has to stay off", Courts.at("0000900000;p15,t36", 5), 0, 1, 1, 500, 1);
    game("b may go there", Courts.at("0000900000;p17,t36", 5), 0, 1, 1, 491, 1);
    // "but where one is one may stay)": the two are on 5, where 4 is COVERED.
    game("a stays", Courts.at("0000900000;t35,p15", 5), 0, 1, 1, 509, 1);
    game("b stays", Courts.at("0000900000;p15,t35", 5), 0, 1, 1, 491, 0);
    // "how a steps first (0 west, 1 not, 2 east)"
    game("west", Courts.at("0000900000;t36,p10", 5), 0, 1, 1, 509, 0);
    game("not", Courts.at("0000900000;t35,p10", 5), 0, 1, 1, 509, 1);
    game("east", Courts.at("0000900000;t34,p10", 5), 0, 1, 1, 509, 2);
  }

  private static void docket(String what, ShadowCourt court, int... due) {
    CHECK.same(what + ", docket(0)", court.docket(0), due[0]);
    for (int number = 0; number < 5; number++) {
      CHECK.same(what + ", case " + number, court.docket(10 + number), due[1 + number]);
    }
  }

  private static void file(ShadowCourt court, int times, int a, int b) {
    for (int number = 0; number < times; number++) court.file(a, b);
  }

  private static void dockets() {
    // "CASES (5 at most)": 0 COVERS TILE 0 in the HOURS 0 to 5, so that all of five are heard; "of like ones the first".
    ShadowCourt court = Courts.of("9000000000;p91,p19");
    docket("no case", court, 0, NONE, NONE, NONE, NONE, NONE);
    file(court, 1, 0, 1);
    docket("one case", court, 1, 0, NONE, NONE, NONE, NONE);
    file(court, 3, 0, 1);
    docket("four cases", court, 4, 0, 1, 2, 3, NONE);
    file(court, 1, 0, 1);
    docket("five cases", court, 5, 0, 1, 2, 3, 4);
    CHECK.same("case 6", court.file(0, 1), ShadowCourt.FULL);
    docket("five cases still", court, 5, 0, 1, 2, 3, 4);
    // "each of two PARTIES, that should be FOUND for the first of these"
    court.settle();
    file(court, 5, 1, 0);
    docket("all the other way", court, 0, NONE, NONE, NONE, NONE, NONE);
  }

  private static void docketHours() {
    // "Each can be heard in one of the HOURS 0 to 12": one of 1 HIGH COVERS two TILES in HOUR 0 and in HOUR 12 alone.
    ShadowCourt first = Courts.of("9000000000;p12,p19");
    file(first, 1, 0, 1);
    docket("hour 0 alone", first, 1, 0, NONE, NONE, NONE, NONE);
    ShadowCourt last = Courts.of("0000000009;p17,p10");
    file(last, 1, 0, 1);
    docket("hour 12 alone", last, 1, 12, NONE, NONE, NONE, NONE);
    // "no two in one"; "NONE ahead of all"
    file(last, 4, 0, 1);
    docket("hour 12 for five", last, 1, NONE, NONE, NONE, NONE, 12);
    // "all PARTIES as they stand now": from 8, TILE 9 is COVERED in the HOURS 9 to 12.
    last.step(0, 1);
    docket("hours 9 to 12 for five", last, 4, NONE, 9, 10, 11, 12);
    last.step(0, 1);
    docket("no hour for five", last, 0, NONE, NONE, NONE, NONE, NONE);
    // "so that most are heard": CASE 0 leaves HOUR 12 to CASE 1, which has no other.
    ShadowCourt two = Courts.of("0000000009;p18,p10,p17");
    file(two, 1, 2, 1);
    file(two, 4, 0, 1);
    docket("hour 12 for case 0", two, 4, NONE, 9, 10, 11, 12);
    two.settle();
    file(two, 3, 0, 1);
    file(two, 1, 2, 1);
    docket("hour 12 for case 3", two, 4, 9, 10, 11, 12, NONE);
  }

  private static void odds(int hour, int hours, int tenths, int above, int below) {
    ShadowCourt court = Courts.at(Courts.THREE_HOURS, hour);
    String what = "odds at " + hour + " of " + hours + " hours and " + tenths + " tenths";
    CHECK.same(what + ", above", court.odds(0, 1, hours, tenths, 0), above);
    CHECK.same(what + ", below", court.odds(0, 1, hours, tenths, 1), below);
  }

  private static void odds() {
    // FOUND for 0 in the HOURS 1 to 3; "so many HOURS (1 to 6) and tenths (0 to 10): from the HOUR it is now on".
    odds(1, 1, 0, 1, 1);
    odds(0, 1, 0, 0, 1);
    odds(3, 6, 0, 1, 1);
    odds(4, 6, 0, 0, 1);
    // "in the first HOUR without it": HOUR 4, in which it is STAYED, comes ahead of none of HOURS 1 to 3.
    odds(3, 2, 1, 9, 10);
    odds(2, 2, 1, 99, 100);
    odds(1, 3, 9, 271, 1000);
    // "(if there is always cloud, or it is STAYED then, it is not)"
    for (int hours = 1; hours <= 6; hours++) odds(1, hours, 10, 0, 1);
    odds(4, 6, 5, 0, 1);
    odds(0, 2, 0, 0, 1);
    // HOUR 0 comes behind 12: from 9 on, HOUR 1 is the sixth one; "in lowest terms".
    odds(9, 5, 3, 0, 1);
    odds(9, 6, 3, 1701, 1000000);
    odds(9, 6, 5, 1, 64);
    odds(9, 6, 2, 4, 15625);
    odds(9, 6, 4, 96, 15625);
    odds(9, 6, 9, 59049, 1000000);
    odds(9, 6, 1, 9, 1000000);
    odds(9, 6, 0, 0, 1);
    odds(9, 6, 10, 0, 1);
    CHECK.same("found for the other one", Courts.at(Courts.THREE_HOURS, 1).odds(1, 0, 3, 0, 0), 0);
  }

  private static void heights() {
    // "HEIGHTS (1 to 9) it can be, ... as bits (1 for 1, 2 for 2, 4 for 3, and so on)": in HOUR 3 one of p9 reaches as
    // far as it is HIGH.
    for (int high = 1; high <= 9; high++) {
      ShadowCourt court = Courts.of("0000000000;p59,p11");
      court.see(0, 3, 9 - high, true);
      CHECK.same("at least " + high, court.party(0, 5), 511 & ~((1 << high - 1) - 1));
      if (high < 9) court.see(0, 3, 8 - high, false);
      CHECK.same("just " + high, court.party(0, 5), 1 << high - 1);
      CHECK.same("of the other one", court.party(1, 5), 511);
    }
    ShadowCourt court = Courts.of("0000000000;p59,p11");
    court.see(0, 3, 0, false);
    CHECK.same("not 9", court.party(0, 5), 255);
    court.see(0, 3, 8, false);
    CHECK.same("none", court.party(0, 5), 0);
    CHECK.same("look for none", court.party(0, 6), NONE);
    // "(8 at most)", the eighth counts, too.
    court.forget();
    for (int number = 1; number <= 7; number++) court.see(1, 6, 0, false);
    CHECK.same("all", court.party(0, 5), 511);
    CHECK.same("what is seen", court.see(0, 3, 0, true), 8);
    CHECK.same("just 9", court.party(0, 5), 256);
    CHECK.same("no more is seen", court.see(0, 3, 8, false), ShadowCourt.FULL);
    CHECK.same("just 9 still", court.party(0, 5), 256);
    // "all else as it is when that is asked"
    court.stand(0, 8);
    CHECK.same("8 or 9 from tile 8", court.party(0, 5), 256 + 128);
  }

  private static void looks() {
    // "told as 10 times the HOUR, and the TILE": from 0 nothing is COVERED ahead of HOUR 7; then four of nine reach 2.
    ShadowCourt court = Courts.of("0000000000;p10,p19,t10,c10,p18");
    CHECK.same("look from tile 0", court.party(0, 6), 72);
    // "so that fewest of these are left at worst: of like ones the least": from 9 five of nine reach TILE 0 in HOUR 0.
    CHECK.same("look from tile 9", court.party(1, 6), 0);
    CHECK.same("look of a child from tile 0: five reach tile 9 in hour 0", court.party(3, 6), 9);
    CHECK.same("look from tile 8", court.party(4, 6), 10);
    // A THIN one of 6 and one of 7 COVER the same TILES up to HOUR 8, and 6 or 7 in HOUR 9.
    court.see(2, 7, 2, true);
    court.see(2, 8, 4, true);
    CHECK.same("6 or 7", court.party(2, 5), 32 + 64);
    CHECK.same("look when two are left", court.party(2, 6), 96);
    court.see(2, 9, 7, true);
    CHECK.same("7", court.party(2, 5), 64);
    CHECK.same("look when one is left", court.party(2, 6), 0);
    // Of 1 HIGH or 2: in HOUR 8 the one reaches nothing, the other one TILE 1.
    court.see(0, 7, 1, false);
    CHECK.same("1 or 2", court.party(0, 5), 3);
    CHECK.same("look for 1 or 2", court.party(0, 6), 81);
    court.rise(0, 9);
    for (int hour = 0; hour < 9; hour++) court.tick();
    CHECK.same("it does not hang on what is so", court.party(0, 6), 81);
    // A THIN one on 3 of 1 HIGH COVERS TILE 1 in HOUR 0, one of 2 a TILE beyond the floor.
    ShadowCourt thin = Courts.of("0000000000;t13,p19");
    for (int tile = 4; tile <= 6; tile++) thin.see(0, 7, tile, false);
    CHECK.same("1 or 2 of a thin one", thin.party(0, 5), 3);
    CHECK.same("look for 1 or 2 of a thin one", thin.party(0, 6), 1);
    // A PLUME on 0 of 5 HIGH COVERS the same as one of 6 in all HOURS: no look leaves less than both.
    ShadowCourt plume = Courts.of("0000000000;u10,p19");
    plume.see(0, 7, 3, true);
    plume.see(0, 7, 4, false);
    plume.see(0, 8, 7, false);
    CHECK.same("5 or 6 of a plume", plume.party(0, 5), 16 + 32);
    CHECK.same("look for 5 or 6 of a plume", plume.party(0, 6), 0);
    // "none, if there are none"
    court.see(0, 8, 1, true);
    CHECK.same("2", court.party(0, 5), 2);
    court.see(0, 8, 1, false);
    CHECK.same("none", court.party(0, 6), NONE);
  }

  private static void terms() {
    // "if it is one, nothing comes of it"; "its rest by 2 to the 31": from 0, the first SEEDS are 12345, 1406932606,
    // 654583775: rounded down by 65536 0, 21468, 9988, so that of four 0 and 0 are drawn, and HOUR 4.
    ShadowCourt court = Courts.of(Courts.FOUR);
    CHECK.same("found for the first, of one", court.terms(1, 0, 0), 0);
    CHECK.same("stayed, of one", court.terms(1, 0, 1), 0);
    CHECK.same("the seed then", court.terms(1, 0, 2), 654583775);
    // With no WORTH at all it is always STAYED, but for one and the same.
    ShadowCourt stayed = Courts.of("0000000000;p11,p12");
    int two = 0;
    long seed = 2147483647;
    for (int times = 1; times <= 60; times++) {
      long a = (seed * 1103515245 + 12345) % (1L << 31);
      long b = (a * 1103515245 + 12345) % (1L << 31);
      seed = (b * 1103515245 + 12345) % (1L << 31);
      if (a / 65536 % 2 != b / 65536 % 2) two++;
      CHECK.same("found of none", stayed.terms(times, 2147483647, 0), 0);
      CHECK.same("stayed of all", stayed.terms(times, 2147483647, 1), two);
    }
    CHECK.same("the seed after sixty", stayed.terms(60, 2147483647, 2), seed);
  }

  private static void images() {
    // "An IMAGE keeps HEIGHTS, TILES of all, HOUR and DAYS, WORTH of TILES, CASES, SEEN."
    ShadowCourt court = Courts.at("0123456789;p11,h22,t33,c44,u55", 25);
    for (int number = 0; number < 5; number++) court.file(number, (number + 1) % 5);
    for (int number = 0; number < 8; number++) court.see(number % 5, number, 9 - number, number % 2 == 0);
    long before = court.digest();
    CHECK.same("image of full rows", court.image(), 25);
    for (int tile = 0; tile < 10; tile++) court.lay(tile, 0);
    for (int party = 0; party < 5; party++) {
      court.stand(party, 9);
      court.rise(party, 9);
    }
    court.settle();
    court.forget();
    for (int number = 0; number < 5; number++) court.file(1, 0);
    for (int number = 0; number < 8; number++) court.see(4, 12, 9, false);
    for (int hour = 0; hour < 13; hour++) court.tick();
    CHECK.same("restore() to full rows", court.restore(), 25);
    CHECK.same("digest of full rows", court.digest(), before);
    for (int party = 0; party < 5; party++) {
      CHECK.same("high again", court.party(party, 1), party + 1);
      CHECK.same("tile again", court.party(party, 2), party + 1);
    }
    for (int tile = 0; tile < 10; tile++) CHECK.same("worth again", court.tile(tile, 0), tile);
    court.settle();
    court.forget();
    court.image();
    court.file(0, 1);
    court.see(0, 0, 0, true);
    court.restore();
    CHECK.same("cases of an image of none", court.count(6), 0);
    CHECK.same("seen of an image of nothing", court.count(8), 0);
  }
}
