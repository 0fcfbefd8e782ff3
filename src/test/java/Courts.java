/** Makes the courts that the tests argue in. */
final class Courts {
  /** One of every KIND but PLUME; the WORTH of all TILES is 21. */
  static final String FOUR = "1203040506;p62,h37,t45,c34";

  /** FOUND for 0 in the HOURS 1 to 3, STAYED in all others. */
  static final String THREE_HOURS = "9000000000;p11,p12";

  private Courts() {
  }

  static ShadowCourt of(String text) {
    ShadowCourt court = new ShadowCourt();
    type(court, text);
    court.court();
    return court;
  }

  static ShadowCourt at(String text, int hours) {
    ShadowCourt court = of(text);
    for (int hour = 0; hour < hours; hour++) court.tick();
    return court;
  }

  static void type(ShadowCourt court, String text) {
    for (int place = 0; place < text.length(); place++) court.letter(text.charAt(place));
  }
}
