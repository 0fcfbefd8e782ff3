/** Promises 1 to 5: a new object, letter, blank, fault, court. */
public final class PageTest {
  private static final Check CHECK = new Check("PageTest");

  public static void main(String[] args) {
    newObject();
    letters();
    blanks();
    faults();
    courts();
    courtsThatAreNone();
    anotherCourt();
    CHECK.end();
  }

  private static void newObject() {
    ShadowCourt court = new ShadowCourt();
    for (int what = 0; what <= 10; what++) CHECK.same("count(" + what + ") of a new object", court.count(what), 0);
    CHECK.same("party(0, 0) of a new object", court.party(0, 0), ShadowCourt.UNKNOWN);
    CHECK.same("tile(0, 0) of a new object", court.tile(0, 0), ShadowCourt.UNKNOWN);
    CHECK.same("restore() of a new object", court.restore(), ShadowCourt.STATE);
    long due = 1217;
    for (int what = 0; what <= 10; what++) due *= 31;
    CHECK.same("digest() of a new object", court.digest(), due);
  }

  private static void letters() {
    ShadowCourt court = new ShadowCourt();
    CHECK.same("letter(32)", court.letter(32), 1);
    CHECK.same("letter(126)", court.letter(126), 2);
    for (int code : new int[] {31, 127, -1, 65536 + 48, Integer.MIN_VALUE, Integer.MAX_VALUE}) {
      CHECK.refused("letter(" + code + ")", court, ShadowCourt.OUTSIDE, x -> x.letter(code));
    }
    for (int number = 3; number <= 34; number++) CHECK.same("letter " + number, court.letter('p'), number);
    CHECK.refused("letter 35", court, ShadowCourt.FULL, x -> x.letter('p'));
    CHECK.refused("letter(31) on a full page", court, ShadowCourt.OUTSIDE, x -> x.letter(31));
  }

  private static void blanks() {
    ShadowCourt court = new ShadowCourt();
    CHECK.same("blank() of none", court.blank(), 0);
    Courts.type(court, "123");
    CHECK.same("blank() of three", court.blank(), 3);
    CHECK.same("count(9) behind blank()", court.count(9), 0);
    CHECK.same("letter behind blank()", court.letter('1'), 1);
    ShadowCourt full = Courts.of(Courts.FOUR);
    full.letter('1');
    full.blank();
    CHECK.same("parties behind blank()", full.count(0), 4);
  }

  private static void faultIn(String page, int due) {
    ShadowCourt court = new ShadowCourt();
    Courts.type(court, page);
    CHECK.refused("fault() of " + page, court, due, ShadowCourt::fault);
  }

  private static void faults() {
    faultIn("", 0);
    faultIn("x", 0);
    faultIn("0123456789", 10);
    faultIn("01234567890", 10);
    faultIn("012345678;", 9);
    faultIn("/123456789", 0);
    faultIn("0:23456789", 1);
    for (char kind : "phtcu".toCharArray()) faultIn("0123456789;" + kind, 12);
    for (char kind : "qPo1,; ".toCharArray()) faultIn("0123456789;" + kind + "11", 11);
    faultIn("0123456789;p0", 12);
    faultIn("0123456789;p:", 12);
    faultIn("0123456789;p1", 13);
    faultIn("0123456789;p9", 13);
    faultIn("0123456789;p10", 14);
    faultIn("0123456789;p19", 14);
    faultIn("0123456789;p1/", 13);
    faultIn("0123456789;p1:", 13);
    faultIn("0123456789;p19;", 14);
    faultIn("0123456789;p19p", 14);
    faultIn("0123456789;p19,", 15);
    faultIn("0123456789;p19,,", 15);
    faultIn("0123456789;p19,h28,c37,t46,u55", 30);
    faultIn("0123456789;p19,h28,c37,t46,u55,", 30);
    faultIn("0123456789;p19,h28,c37,t46,u55,p11", 30);
    faultIn("0123456789;p19,h28,x37,y46", 19);
  }

  private static void courtOf(String page, int due) {
    ShadowCourt court = new ShadowCourt();
    Courts.type(court, page);
    CHECK.same("court() of " + page, court.court(), due);
    CHECK.same("parties of " + page, court.count(0), due);
    CHECK.same("letters behind court() of " + page, court.count(9), 0);
    CHECK.same("courts read behind " + page, court.count(10), 1);
  }

  private static void courts() {
    courtOf("0123456789;p19,h28", 2);
    courtOf("0123456789;p19,h28,c37", 3);
    courtOf("0123456789;p19,h28,c37,t46", 4);
    courtOf("0123456789;p19,h28,c37,t46,u55", 5);
    ShadowCourt court = Courts.of("0123456789;u90,t18");
    for (int tile = 0; tile < 10; tile++) CHECK.same("worth as read", court.tile(tile, 0), tile);
    int[][] due = {{4, 9, 0}, {2, 1, 8}};
    for (int party = 0; party < 2; party++) {
      for (int what = 0; what < 3; what++) CHECK.same("party as read", court.party(party, what), due[party][what]);
    }
  }

  private static void courtsThatAreNone() {
    String whole = "0123456789;p19,h28,c37,t46,u55";
    for (int length = 0; length <= whole.length(); length++) {
      if (length == 18 || length == 22 || length == 26 || length == 30) continue;
      ShadowCourt court = new ShadowCourt();
      Courts.type(court, whole.substring(0, length));
      CHECK.refused("court() of " + length + " letters", court, ShadowCourt.STATE, ShadowCourt::court);
    }
    for (String page : new String[] {whole + ",", whole + ",p11", "0123456789;p19,h08", "0123456789;p19,x28"}) {
      ShadowCourt court = new ShadowCourt();
      Courts.type(court, page);
      CHECK.refused("court() of " + page, court, ShadowCourt.STATE, ShadowCourt::court);
    }
    ShadowCourt standing = Courts.at(Courts.FOUR, 3);
    standing.image();
    standing.letter('1');
    CHECK.refused("court() of 1 with a court", standing, ShadowCourt.STATE, ShadowCourt::court);
    CHECK.same("restore() behind a refused court()", standing.restore(), 3);
  }

  private static void anotherCourt() {
    ShadowCourt court = Courts.at(Courts.FOUR, 14);
    court.file(0, 1);
    court.see(0, 3, 0, false);
    court.lay(4, 9);
    court.rise(0, 1);
    court.stand(0, 9);
    Courts.type(court, Courts.FOUR);
    CHECK.same("the same court again", court.court(), 4);
    int[] due = {4, 0, 0, 21, 10, 6, 0, 0, 0, 0, 2};
    for (int what = 0; what <= 10; what++) {
      CHECK.same("count(" + what + ") of the same court again", court.count(what), due[what]);
    }
    CHECK.same("high of the same court again", court.party(0, 1), 6);
    CHECK.same("tile of the same court again", court.party(0, 2), 2);
    CHECK.same("heights of the same court again", court.party(0, 5), 511);
    Courts.type(court, Courts.THREE_HOURS);
    CHECK.same("a court of fewer", court.court(), 2);
    CHECK.same("a party of the court before", court.party(2, 0), ShadowCourt.UNKNOWN);
  }
}
