/**
 * The boundary cases of the promises 1 to 27, promise by promise: the least and the greatest that a call takes and
 * answers, THE PAGE, CASES and SEEN empty and full, no COURT, HOUR 12 and the next. What is refused is in RefusalTest.
 */
public final class CallEdgeTest {
  private static final Check CHECK = new Check("CallEdgeTest");
  private static final int NONE = ShadowCourt.NONE, UNKNOWN = ShadowCourt.UNKNOWN;
  private static final int STATE = ShadowCourt.STATE, FULL = ShadowCourt.FULL;
  private static final String LEAST = "0000000000;p10,p10";
  private static final String GREATEST = "9999999999;u99,u99,u99,u99,u99";

  public static void main(String[] args) {
    withoutACourt();
    letters();
    blanks();
    faults();
    courts();
    courtsOverCourts();
    parties();
    castsAndCovers();
    tiles();
    found();
    ticks();
    stepsAndStands();
    risesAndLays();
    cases();
    casesToTheEnd();
    seen();
    images();
    restores();
    counts();
    digests();
    CHECK.end();
  }

  private static void fill(ShadowCourt court, int letters) {
    for (int number = 0; number < letters; number++) court.letter('1');
  }

  private static void withoutACourt() {
    // Promise 1: "No COURT."
    ShadowCourt court = new ShadowCourt();
    CHECK.same("party()", court.party(0, 0), UNKNOWN);
    CHECK.same("as()", court.as(0, 0), UNKNOWN);
    CHECK.same("covers()", court.covers(0, 0), UNKNOWN);
    CHECK.same("tile()", court.tile(0, 0), UNKNOWN);
    CHECK.same("found()", court.found(0, 1, 0), UNKNOWN);
    CHECK.same("tick()", court.tick(), STATE);
    CHECK.same("step()", court.step(0, 1), UNKNOWN);
    CHECK.same("stand()", court.stand(0, 0), UNKNOWN);
    CHECK.same("rise()", court.rise(0, 1), UNKNOWN);
    CHECK.same("lay()", court.lay(0, 0), UNKNOWN);
    CHECK.same("file()", court.file(0, 1), UNKNOWN);
    CHECK.same("settle()", court.settle(), 0);
    CHECK.same("game()", court.game(0, 1, 1, 0), UNKNOWN);
    CHECK.same("docket()", court.docket(0), STATE);
    CHECK.same("odds()", court.odds(0, 1, 1, 0, 0), UNKNOWN);
    CHECK.same("see()", court.see(0, 0, 0, true), UNKNOWN);
    CHECK.same("forget()", court.forget(), 0);
    CHECK.same("terms()", court.terms(1, 0, 0), STATE);
    CHECK.same("image()", court.image(), STATE);
    CHECK.same("restore()", court.restore(), STATE);
    CHECK.same("blank()", court.blank(), 0);
    CHECK.same("fault()", court.fault(), 0);
    CHECK.same("court()", court.court(), STATE);
    for (int what = 0; what <= 10; what++) CHECK.same("count()", court.count(what), 0);
  }

  private static void letters() {
    // Promise 2: "code (32 to 126)", "how many THE PAGE has", "FULL: above 34"; also with a COURT.
    for (ShadowCourt court : new ShadowCourt[] {new ShadowCourt(), Courts.of(LEAST)}) {
      for (int code = 32; code <= 126; code++) {
        int number = (code - 32) % 34 + 1;
        CHECK.same("letter(" + code + ")", court.letter(code), number);
        CHECK.same("count(9) then", court.count(9), number);
        if (number == 34) CHECK.same("one above 34", court.letter(code), FULL);
        if (number == 34) CHECK.same("a full page is blank", court.blank(), 34);
      }
    }
  }

  private static void blanks() {
    // Promise 3: "THE PAGE is empty: how many letters it had."
    for (int letters = 0; letters <= 34; letters++) {
      ShadowCourt court = new ShadowCourt();
      fill(court, letters);
      CHECK.same("blank() of " + letters, court.blank(), letters);
      CHECK.same("blank() behind it", court.blank(), 0);
      CHECK.same("fault() behind it", court.fault(), 0);
      CHECK.same("the first letter behind it", court.letter('1'), 1);
    }
  }

  private static void faultIn(String page, int due) {
    ShadowCourt court = new ShadowCourt();
    Courts.type(court, page);
    CHECK.same("fault() of " + page, court.fault(), due);
    CHECK.same("letters behind fault() of " + page, court.count(9), page.length());
  }

  private static void faults() {
    // Promise 4: "The place (from 0) of the first letter ...; how many letters it has, if there is none."
    String full = "0123456789;p11,h22,t33,c44,u55,p66";
    for (int length = 0; length <= 34; length++) faultIn(full.substring(0, length), Math.min(length, 30));
    for (int place = 0; place < 30; place++) {
      faultIn(full.substring(0, place) + "~" + full.substring(place + 1), place);
      faultIn(full.substring(0, place) + " ", place);
    }
    for (char last = ' '; last <= '~'; last++) faultIn(full.substring(0, 30) + last, 30);
    // The first one, of several.
    faultIn("01234567x9;x11,p0x", 8);
    faultIn("0123456789;x11,p0x", 11);
    faultIn("0123456789;p11,p0x", 16);
  }

  private static void courts() {
    // Promise 5: "how many PARTIES; THE PAGE is empty then. STATE: it is none."
    String most = "0123456789;p11,h22,t33,c44,u55,p66";
    for (int length = 0; length <= 34; length++) {
      ShadowCourt court = new ShadowCourt();
      Courts.type(court, most.substring(0, length));
      boolean isCourt = length == 18 || length == 22 || length == 26 || length == 30;
      CHECK.same("court() of " + length + " letters", court.court(), isCourt ? (length - 10) / 4 : STATE);
      CHECK.same("letters then", court.count(9), isCourt ? 0 : length);
      CHECK.same("how often a court was read then", court.count(10), isCourt ? 1 : 0);
      CHECK.same("parties then", court.count(0), isCourt ? (length - 10) / 4 : 0);
    }
    ShadowCourt court = Courts.of(GREATEST);
    CHECK.same("court() of an empty page", court.court(), STATE);
    CHECK.same("the court still", court.count(0), 5);
    fill(court, 34);
    CHECK.same("court() of a full page", court.court(), STATE);
    CHECK.same("the page still", court.count(9), 34);
    court.blank();
    Courts.type(court, LEAST);
    CHECK.same("court() behind blank()", court.court(), 2);
  }

  private static void courtsOverCourts() {
    // "(another one is gone, with all that was)"
    ShadowCourt court = Courts.at(GREATEST, 25);
    for (int number = 0; number < 5; number++) court.file(number, (number + 1) % 5);
    for (int number = 0; number < 8; number++) court.see(0, 6, 0, true);
    court.image();
    Courts.type(court, "1111111111;t91,c15,h37");
    CHECK.same("another court", court.court(), 3);
    ShadowCourt alone = Courts.of("1111111111;t91,c15,h37");
    for (int what = 0; what < 10; what++) CHECK.same("count() as of it alone", court.count(what), alone.count(what));
    for (int party = 0; party < 5; party++) {
      for (int what = 0; what <= 6; what++) {
        CHECK.same("party() as of it alone", court.party(party, what), alone.party(party, what));
      }
    }
    for (int what = 10; what <= 14; what++) CHECK.same("docket() then", court.docket(what), NONE);
    CHECK.same("restore() then", court.restore(), STATE);
    CHECK.same("how often a court was read", court.count(10), 2);
  }

  private static void party(ShadowCourt court, int party, int... due) {
    for (int what = 0; what <= 6; what++) {
      CHECK.same("party(" + party + ", " + what + ")", court.party(party, what), due[what]);
    }
  }

  private static void parties() {
    // Promise 6: the least and the greatest of each; the first PARTY and the last one.
    ShadowCourt court = Courts.at("9999999999;p10,h90,t99,c94,u99", 12);
    party(court, 0, 0, 1, 0, 6, 18, 511, 72);
    party(court, 1, 1, 9, 0, 1022, 81, 511, 85);
    party(court, 2, 2, 9, 9, 0, 0, 511, 57);
    party(court, 3, 3, 9, 4, 1007, 81, 511, 39);
    party(court, 4, 4, 9, 9, 0, 0, 511, 30);
    CHECK.same("the party behind the last one", court.party(5, 0), UNKNOWN);
    court.tick();
    party(court, 4, 4, 9, 9, 511, 81, 511, 30);
    court.see(4, 6, 8, true);
    party(court, 4, 4, 9, 9, 511, 81, 0, NONE);
    ShadowCourt two = Courts.of(LEAST);
    party(two, 1, 0, 1, 0, 0, 0, 511, 72);
    CHECK.same("the party behind the second one", two.party(2, 0), UNKNOWN);
  }

  private static void castsAndCovers() {
    // Promise 7: "its own number (not that of the KIND); NONE: it is none such (the cast fails)"
    ShadowCourt court = Courts.of("0000000000;u11,c11,t11,h11,p11");
    int[][] due = {{0, 0, NONE, NONE, 0}, {1, NONE, NONE, 1, NONE}, {2, NONE, 2, NONE, NONE}, {3, 3, NONE, NONE, NONE},
        {4, NONE, NONE, NONE, NONE}};
    for (int party = 0; party < 5; party++) {
      for (int kind = 0; kind < 5; kind++) {
        CHECK.same("as(" + party + ", " + kind + ")", court.as(party, kind), due[party][kind]);
      }
    }
    // Promise 8: "hour (0 to 12)", whichever HOUR it is.
    for (int hour : new int[] {0, 6, 12}) {
      ShadowCourt at = Courts.at("0000000000;p15,p35", hour);
      CHECK.same("covers() in hour 0", at.covers(1, 0), 31);
      CHECK.same("covers() in hour 5", at.covers(1, 5), 16);
      CHECK.same("covers() in hour 6", at.covers(1, 6), 0);
      CHECK.same("covers() in hour 7", at.covers(1, 7), 64);
      CHECK.same("covers() in hour 12", at.covers(0, 12), 192);
    }
  }

  private static void tiles() {
    // Promise 9: TILES 0 and 9, none and all on one, none and all that COVER one; HOUR 12 and the next.
    ShadowCourt court = Courts.at("0000000009;p90,h90,t90,c90,u90", 12);
    court.rise(2, 4);
    court.stand(2, 1);
    CHECK.same("worth of tile 0", court.tile(0, 0), 0);
    CHECK.same("worth of tile 9", court.tile(9, 0), 9);
    CHECK.same("who stands on tile 0", court.tile(0, 1), 27);
    CHECK.same("who stands on tile 1", court.tile(1, 1), 4);
    CHECK.same("who stands on tile 9", court.tile(9, 1), 0);
    CHECK.same("who covers tile 9", court.tile(9, 2), 31);
    CHECK.same("who covers tile 0", court.tile(0, 2), 0);
    court.tick();
    CHECK.same("who covers tile 9 at hour 0", court.tile(9, 2), 8);
    CHECK.same("who covers tile 0 at hour 0", court.tile(0, 2), 0);
    court.stand(0, 9);
    CHECK.same("who covers tile 0 then", court.tile(0, 2), 1);
  }

  private static void found() {
    // Promise 10: "told as 100 more", in HOUR 0 and in HOUR 12, whichever HOUR it is.
    for (int hour : new int[] {0, 12}) {
      ShadowCourt court = Courts.at("9999999999;p99,p10,u90", hour);
      CHECK.same("most, hour 0", court.found(0, 2, 0), 181);
      CHECK.same("least, hour 0", court.found(2, 0, 0), 19);
      CHECK.same("stayed, hour 0", court.found(1, 2, 0), 100);
      CHECK.same("most, hour 12", court.found(2, 0, 12), 181);
      CHECK.same("least, hour 12", court.found(0, 2, 12), 19);
      CHECK.same("hour 6", court.found(0, 2, 6), 100);
      CHECK.same("the same two numbers", court.found(2, 2, 12), UNKNOWN);
    }
  }

  private static void ticks() {
    // Promise 11: "An HOUR goes by: which it is." As many as 512 calls leave room for.
    ShadowCourt court = Courts.of(LEAST);
    for (int hours = 1; hours <= 490; hours++) CHECK.same("tick() " + hours, court.tick(), hours % 13);
    CHECK.same("days of 490 hours", court.count(2), 37);
    CHECK.same("image() of 490 hours", court.image(), 490);
    CHECK.same("the hour", court.count(1), 9);
    // "FULL: it would be DAY 100"; more calls than are promised.
    ShadowCourt old = Courts.at(LEAST, 1298);
    CHECK.same("tick() to the last hour", old.tick(), 12);
    CHECK.same("image() of the last hour", old.image(), 1299);
    CHECK.same("tick() to day 100", old.tick(), FULL);
    CHECK.same("days still", old.count(2), 99);
    CHECK.same("hour still", old.count(1), 12);
  }

  private static void stepsAndStands() {
    // Promise 12: "its TILE then"; "STATE: it would be off the floor".
    ShadowCourt court = Courts.of(LEAST);
    for (int tile = 1; tile <= 9; tile++) CHECK.same("step east", court.step(1, 1), tile);
    CHECK.same("step off tile 9", court.step(1, 1), STATE);
    CHECK.same("the tile still", court.party(1, 2), 9);
    for (int tile = 8; tile >= 0; tile--) CHECK.same("step west", court.step(1, -1), tile);
    CHECK.same("step off tile 0", court.step(1, -1), STATE);
    CHECK.same("the tile still", court.party(1, 2), 0);
    // Promise 13: "where it stood"; "tile (0 to 9)".
    int stood = 0;
    for (int tile : new int[] {0, 9, 9, 0, 5}) {
      CHECK.same("stand() on " + tile, court.stand(0, tile), stood);
      CHECK.same("tile then", court.party(0, 2), tile);
      stood = tile;
    }
    CHECK.same("the other one's tile", court.party(1, 2), 0);
  }

  private static void risesAndLays() {
    // Promise 14: "how HIGH it was"; "high (1 to 9)".
    ShadowCourt court = Courts.of("0000000000;p51,p19");
    int was = 1;
    for (int high : new int[] {1, 9, 9, 1, 4}) {
      CHECK.same("rise() to " + high, court.rise(1, high), was);
      CHECK.same("high then", court.party(1, 1), high);
      was = high;
    }
    CHECK.same("how high the other one is", court.party(0, 1), 5);
    // Promise 15: "which WORTH it had"; "worth (0 to 9)".
    for (int tile : new int[] {0, 9}) {
      int had = 0;
      for (int worth : new int[] {0, 9, 9, 0, 6}) {
        CHECK.same("lay() of " + worth, court.lay(tile, worth), had);
        CHECK.same("worth then", court.tile(tile, 0), worth);
        had = worth;
      }
    }
    CHECK.same("worth of all", court.count(3), 12);
    CHECK.same("worth of what it covers", court.party(1, 4), 0);
    court.stand(1, 1);
    CHECK.same("worth of what it covers from 1", court.party(1, 4), 6);
  }

  private static void cases() {
    // Promise 16: "how many there are"; the same two PARTIES again, the other way round, too. Promise 17.
    ShadowCourt court = Courts.of(GREATEST);
    for (int cases = 0; cases <= 5; cases++) {
      for (int number = 1; number <= cases; number++) {
        CHECK.same("file() of number " + number, court.file(number % 2 == 0 ? 0 : 4, number % 2 == 0 ? 4 : 0), number);
      }
      CHECK.same("count(6) of " + cases, court.count(6), cases);
      CHECK.same("settle() of " + cases, court.settle(), cases);
      CHECK.same("settle() of none", court.settle(), 0);
      CHECK.same("count(6) of none", court.count(6), 0);
      CHECK.same("count(7) of none", court.count(7), 0);
    }
  }

  private static void casesToTheEnd() {
    // Promise 19: "NONE: it is not, or there is none such"; the CASES of before are not told of.
    ShadowCourt court = Courts.of("9000000000;p91,p19");
    for (int number = 0; number < 5; number++) court.file(0, 1);
    CHECK.same("the last case", court.docket(14), 4);
    CHECK.same("all as they should be", court.count(7), 5);
    court.settle();
    CHECK.same("docket(0) of none", court.docket(0), 0);
    for (int what = 10; what <= 14; what++) CHECK.same("docket() of none", court.docket(what), NONE);
    for (int number = 0; number < 4; number++) court.file(0, 1);
    CHECK.same("case 3 of four", court.docket(13), 3);
    CHECK.same("case 4 of four", court.docket(14), NONE);
    CHECK.same("docket(0) of four", court.docket(0), 4);
    CHECK.same("case 4", court.file(1, 0), 5);
    CHECK.same("one that can't be", court.docket(14), NONE);
    CHECK.same("all but that", court.docket(0), 4);
  }

  private static void seen() {
    // Promise 21: "how much is", of the same again, too. Promise 22.
    ShadowCourt court = Courts.of("0000000000;p19,p19");
    for (int seen = 0; seen <= 8; seen++) {
      for (int number = 1; number <= seen; number++) CHECK.same("see()", court.see(1, 0, 0, true), number);
      CHECK.same("count(8) of " + seen, court.count(8), seen);
      CHECK.same("heights", court.party(1, 5), seen == 0 ? 511 : 496);
      CHECK.same("forget() of " + seen, court.forget(), seen);
      CHECK.same("forget() of nothing", court.forget(), 0);
      CHECK.same("heights then", court.party(1, 5), 511);
    }
    // "hour (0 to 12), tile (0 to 9)", and both that it COVERS, and that it does not.
    CHECK.same("hour 0, tile 0", court.see(0, 0, 0, true), 1);
    CHECK.same("5 to 9", court.party(0, 5), 496);
    CHECK.same("hour 12, tile 9, not", court.see(0, 12, 9, false), 2);
    CHECK.same("5 to 9 still", court.party(0, 5), 496);
    CHECK.same("hour 0, tile 0, not", court.see(0, 0, 0, false), 3);
    CHECK.same("it can't be", court.party(0, 5), 0);
    CHECK.same("hour 12, tile 9", court.see(1, 12, 9, true), 4);
    CHECK.same("it can't be on its own tile", court.party(1, 5), 0);
  }

  private static void images() {
    // Promise 24: "(one; the latest): how many HOURS there were (13 a DAY)"; HOUR 12 and the next.
    ShadowCourt court = Courts.of(LEAST);
    for (int hours = 0; hours <= 27; hours++) {
      CHECK.same("image() of " + hours, court.image(), hours);
      court.tick();
      CHECK.same("restore() of " + hours, court.restore(), hours);
      CHECK.same("hour of that", court.count(1), hours % 13);
      CHECK.same("day of that", court.count(2), hours / 13);
      court.tick();
    }
  }

  private static void restores() {
    // Promise 25: "STATE: none was kept, or a COURT was read since (of the same text, too)".
    ShadowCourt court = Courts.at(LEAST, 12);
    CHECK.same("restore() of none", court.restore(), STATE);
    CHECK.same("the hour still", court.count(1), 12);
    court.image();
    court.tick();
    court.court();
    CHECK.same("restore() behind a refused court()", court.restore(), 12);
    court.tick();
    CHECK.same("restore() once more", court.restore(), 12);
    Courts.type(court, LEAST);
    court.court();
    CHECK.same("restore() behind a court", court.restore(), STATE);
    CHECK.same("restore() behind a court again", court.restore(), STATE);
    CHECK.same("the hour of the new court", court.count(1), 0);
    court.tick();
    CHECK.same("image() of the new court", court.image(), 1);
    CHECK.same("restore() of the new court", court.restore(), 1);
    // "how many HOURS there were (as it was kept)"; what it does not keep: THE PAGE, how often a COURT was read.
    fill(court, 34);
    CHECK.same("restore() with a full page", court.restore(), 1);
    CHECK.same("the page still", court.count(9), 34);
    CHECK.same("how often a court was read", court.count(10), 2);
  }

  private static void count(ShadowCourt court, int... due) {
    for (int what = 0; what <= 10; what++) CHECK.same("count(" + what + ")", court.count(what), due[what]);
  }

  private static void counts() {
    // Promise 26: each at its least and at its greatest.
    count(new ShadowCourt(), 0, 0, 0, 0, 0, 0, 0, 0, 0, 0, 0);
    ShadowCourt least = Courts.at(LEAST, 6);
    count(least, 2, 6, 0, 0, 0, 0, 0, 0, 0, 0, 1);
    ShadowCourt most = Courts.at("9999999999;u99,u90,c99,c90,c98", 12);
    for (int number = 0; number < 5; number++) most.file(1, 0);
    for (int number = 0; number < 8; number++) most.see(0, 0, 0, true);
    fill(most, 34);
    count(most, 5, 12, 0, 90, 10, 10, 5, 5, 8, 34, 1);
    most.tick();
    count(most, 5, 0, 1, 90, 10, 10, 5, 0, 8, 34, 1);
    // Of CASES those that are STAYED now are not as they should be.
    ShadowCourt stayed = Courts.at("1111111111;p11,p11", 3);
    stayed.file(0, 1);
    stayed.file(1, 0);
    CHECK.same("count(7) of two that are stayed", stayed.count(7), 0);
    // A TILE that one COVERS, and one that two do.
    ShadowCourt tiles = Courts.at("0000000000;p32,p33", 5);
    CHECK.same("tiles that any covers", tiles.count(4), 2);
    CHECK.same("tiles that two cover", tiles.count(5), 0);
    tiles.rise(1, 6);
    CHECK.same("tiles that any covers then", tiles.count(4), 2);
    CHECK.same("tiles that two cover then", tiles.count(5), 1);
    // How often a COURT was read: as often as 512 calls leave room for.
    ShadowCourt often = new ShadowCourt();
    for (int times = 1; times <= 26; times++) {
      Courts.type(often, LEAST);
      often.court();
      CHECK.same("how often", often.count(10), times);
    }
  }

  private static void digests() {
    // Promise 27: with no COURT and THE PAGE empty and full; with the least of COURTS, and the greatest.
    ShadowCourt none = new ShadowCourt();
    digest(none, "");
    String page = " ~ ~ ~ ~ ~ ~ ~ ~ ~ ~ ~ ~ ~ ~ ~ ~ ~";
    Courts.type(none, page);
    digest(none, page);
    for (String text : new String[] {LEAST, GREATEST, Courts.FOUR, Courts.THREE_HOURS, "9182736455;u40,p88,h14,c24,t65",
        "1234567890;t35,c52", "0900300401;c12,u98,t77"}) {
      ShadowCourt court = Courts.of(text);
      for (int ticks = 0; ticks < 14; ticks++) {
        digest(court, "");
        court.tick();
        if (ticks % 2 == 0) court.file(ticks % 4 / 2, 1 - ticks % 4 / 2);
        court.see(1, ticks % 13, ticks % 10, ticks % 3 == 0);
      }
      Courts.type(court, page);
      digest(court, page);
    }
  }

  private static void digest(ShadowCourt court, String page) {
    CHECK.same("digest()", court.digest(), Courts.digestOf(court, page));
  }
}
