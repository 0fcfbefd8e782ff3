/** Promises 24 to 27: image, restore, count, digest. */
public final class WholeTest {
  private static final Check CHECK = new Check("WholeTest");

  public static void main(String[] args) {
    imageAndRestore();
    theLatestImage();
    imageOfACourtBefore();
    counts();
    digests();
    CHECK.end();
  }

  private static void change(ShadowCourt court) {
    court.tick();
    court.step(0, -1);
    court.stand(1, 0);
    court.rise(2, 9);
    court.lay(9, 0);
    court.settle();
    court.file(3, 2);
    court.file(3, 1);
    court.file(2, 1);
    court.forget();
    court.see(3, 1, 1, true);
  }

  private static void imageAndRestore() {
    ShadowCourt court = Courts.at(Courts.FOUR, 28);
    CHECK.refused("restore() without an image", court, ShadowCourt.STATE, ShadowCourt::restore);
    court.file(0, 1);
    court.file(1, 2);
    court.see(0, 3, 0, false);
    court.see(1, 3, 1, true);
    long before = court.digest();
    CHECK.same("image()", court.image(), 28);
    CHECK.same("digest behind image()", court.digest(), before);
    for (int turn = 0; turn < 2; turn++) {
      change(court);
      CHECK.isTrue("all is changed", court.digest() != before);
      CHECK.same("restore()", court.restore(), 28);
      CHECK.same("digest behind restore()", court.digest(), before);
      CHECK.same("heights behind restore()", court.party(1, 5), 511 & ~7);
      CHECK.same("docket behind restore()", court.docket(0), 2);
    }
    court.letter('7');
    court.restore();
    CHECK.same("the page is not kept", court.count(9), 1);
    CHECK.refused("image() without a court", new ShadowCourt(), ShadowCourt.STATE, ShadowCourt::image);
  }

  private static void theLatestImage() {
    ShadowCourt court = Courts.of(Courts.FOUR);
    CHECK.same("image() at first", court.image(), 0);
    for (int hour = 0; hour < 13; hour++) court.tick();
    CHECK.same("image() a day behind", court.image(), 13);
    court.tick();
    CHECK.same("restore() of the latest", court.restore(), 13);
    CHECK.same("its day", court.count(2), 1);
    CHECK.same("its hour", court.count(1), 0);
  }

  private static void imageOfACourtBefore() {
    ShadowCourt court = Courts.of(Courts.FOUR);
    court.image();
    Courts.type(court, Courts.FOUR);
    court.court();
    CHECK.refused("restore() behind the same court", court, ShadowCourt.STATE, ShadowCourt::restore);
    court.image();
    court.tick();
    CHECK.same("restore() of a new image", court.restore(), 0);
  }

  private static void counts() {
    ShadowCourt court = Courts.of(Courts.FOUR);
    int[] atFirst = {4, 0, 0, 21, 10, 6, 0, 0, 0, 0, 1};
    for (int what = 0; what <= 10; what++) CHECK.same("count(" + what + ")", court.count(what), atFirst[what]);
    for (int hour = 0; hour < 20; hour++) court.tick();
    court.lay(2, 9);
    court.file(0, 1);
    court.file(1, 0);
    court.file(3, 1);
    court.see(0, 0, 0, true);
    court.letter('p');
    court.letter('p');
    // In HOUR 7: 0 COVERS 3 and 4, 1 COVERS 8, 2 COVERS 6, 3 COVERS 3 and 5.
    int[] then = {4, 7, 1, 30, 5, 1, 3, 2, 1, 2, 1};
    for (int what = 0; what <= 10; what++) CHECK.same("count(" + what + ") then", court.count(what), then[what]);
    for (int what : new int[] {-1, 11, Integer.MIN_VALUE, Integer.MAX_VALUE}) {
      CHECK.refused("count(" + what + ")", court, ShadowCourt.OUTSIDE, x -> x.count(what));
      CHECK.refused("count(" + what + ") without a court", new ShadowCourt(), ShadowCourt.OUTSIDE, x -> x.count(what));
    }
  }

  private static void digests() {
    ShadowCourt court = Courts.at("9182736455;u90,u99,h14,c24,t65", 20);
    court.file(0, 1);
    court.file(4, 3);
    court.see(2, 9, 8, true);
    Courts.type(court, "12~");
    CHECK.same("digest()", court.digest(), Courts.digestOf(court, "12~"));
    court.blank();
    CHECK.same("digest() behind blank()", court.digest(), Courts.digestOf(court, ""));
    ShadowCourt none = new ShadowCourt();
    Courts.type(none, "12");
    CHECK.same("digest() without a court", none.digest(), Courts.digestOf(none, "12"));
  }
}
