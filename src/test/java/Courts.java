/** Makes the courts that the tests argue in. */
final class Courts {
  /** One of every KIND but PLUME; the WORTH of all TILES is 21. */
  static final String FOUR = "1203040506;p62,h37,t45,c34";

  /** FOUND for 0 in the HOURS 1 to 3, STAYED in all others. */
  static final String THREE_HOURS = "9000000000;p11,p12";

  private Courts() {
  }

  static ShadowCourt of(String text) {
    ShadowCourt court = new ShadowCourt();
    type(court, text);
    court.court();
    return court;
  }

  static ShadowCourt at(String text, int hours) {
    ShadowCourt court = of(text);
    for (int hour = 0; hour < hours; hour++) court.tick();
    return court;
  }

  static void type(ShadowCourt court, String text) {
    for (int place = 0; place < text.length(); place++) court.letter(text.charAt(place));
  }

  /** The digest as promise 27 tells it, by what the other calls tell. */
  static long digestOf(ShadowCourt court, String page) {
    long[] h = {1217};
    int parties = court.count(0);
    for (int party = 0; party < parties; party++) {
      for (int what = 0; what <= 6; what++) add(h, court.party(party, what));
      add(h, court.covers(party, 3));
      add(h, court.covers(party, 10));
    }
    if (parties > 0) addCourt(h, court);
    for (char letter : page.toCharArray()) add(h, letter);
    for (int what = 0; what <= 10; what++) add(h, court.count(what));
    return h[0];
  }

  private static void addCourt(long[] h, ShadowCourt court) {
    for (int tile = 0; tile < 10; tile++) {
      for (int what = 0; what <= 2; what++) add(h, court.tile(tile, what));
    }
    for (int hour = 0; hour <= 12; hour++) add(h, court.found(0, 1, hour));
    for (int what = 0; what <= 1; what++) add(h, court.game(0, 1, 2, what));
    for (int what = 0; what <= 1; what++) add(h, court.odds(0, 1, 4, 3, what));
    for (int what : new int[] {0, 10, 11, 12, 13, 14}) add(h, court.docket(what));
  }

  private static void add(long[] h, long number) {
    h[0] = 31 * h[0] + number;
  }
}
