import java.util.Random;

/** Long runs of calls, drawn by fixed seeds, in which every answer of the class is that of the Model. */
public final class WalkTest {
  private static final Check CHECK = new Check("WalkTest");
  private static final int WALKS = 300;
  private static final int MOST_CALLS = 512;

  private final Random random;
  private final ShadowCourt court = new ShadowCourt();
  private final Model model = new Model();
  private final StringBuilder run = new StringBuilder();
  private int calls;

  private WalkTest(int seed) {
    random = new Random(seed);
  }

  public static void main(String[] args) {
    for (int seed = 0; seed < WALKS; seed++) new WalkTest(seed).walk();
    CHECK.end();
  }

  private void walk() {
    if (random.nextInt(10) > 0) type(someCourt());
    while (calls < MOST_CALLS) anyCall();
  }

  private String someCourt() {
    StringBuilder text = new StringBuilder();
    int most = random.nextBoolean() ? 10 : 3;
    for (int tile = 0; tile < 10; tile++) text.append(random.nextInt(most));
    int parties = 2 + random.nextInt(4);
    for (int party = 0; party < parties; party++) {
      text.append(party == 0 ? ';' : ',').append("phtcu".charAt(random.nextInt(5)));
      text.append(1 + random.nextInt(9)).append(random.nextInt(10));
    }
    if (random.nextInt(6) == 0) text.setCharAt(random.nextInt(text.length()), ",;p0h5x".charAt(random.nextInt(7)));
    if (random.nextInt(12) == 0) text.append(",p55");
    return text.toString();
  }

  private void type(String text) {
    same("blank", court.blank(), model.blank());
    for (char letter : text.toCharArray()) same("letter " + letter, court.letter(letter), model.letter(letter));
    same("fault", court.fault(), model.fault());
    same("court", court.court(), model.court());
  }

  private void same(String call, long got, long due) {
    calls++;
    run.append(call).append("; ");
    CHECK.same(got == due ? "" : run.toString(), got, due);
  }

  /** Mostly within the range, now and then beyond it. */
  private int near(int least, int most) {
    int kind = random.nextInt(60);
    if (kind == 0) return Integer.MIN_VALUE;
    if (kind == 1) return Integer.MAX_VALUE;
    if (kind < 5) return random.nextBoolean() ? least - 1 : most + 1;
    return least + random.nextInt(most - least + 1);
  }

  private int someParty() {
    int parties = court.count(0);
    calls++;
    model.count(0);
    return near(0, parties == 0 ? 1 : parties - 1);
  }

  private void anyCall() {
    switch (random.nextInt(5)) {
      case 0: tell(); break;
      case 1: tellOfParties(); break;
      case 2: foretell(); break;
      case 3: move(); break;
      default: change();
    }
  }

  private void tell() {
    int a = near(0, 12);
    int b = near(0, 2);
    switch (random.nextInt(12)) {
      case 0: case 1: case 2: case 3: same("tile " + a + " " + b, court.tile(a, b), model.tile(a, b)); break;
      case 4: case 5: case 6: same("count " + a, court.count(a), model.count(a)); break;
      case 7: same("letter " + a, court.letter(a), model.letter(a)); break;
      case 8: same("fault", court.fault(), model.fault()); break;
      case 9: same("image", court.image(), model.image()); break;
      case 10: same("restore", court.restore(), model.restore()); break;
      default: same("digest", court.digest(), model.digest());
    }
  }

  private void tellOfParties() {
    int a = someParty();
    int b = someParty();
    int what = near(0, 6);
    int kind = near(0, 4);
    int hour = near(0, 12);
    switch (random.nextInt(4)) {
      case 0: same("party " + a + " " + what, court.party(a, what), model.party(a, what)); break;
      case 1: same("as " + a + " " + kind, court.as(a, kind), model.as(a, kind)); break;
      case 2: same("covers " + a + " " + hour, court.covers(a, hour), model.covers(a, hour)); break;
      default: same("found " + a + " " + b + " " + hour, court.found(a, b, hour), model.found(a, b, hour));
    }
  }

  private void foretell() {
    int a = someParty();
    int b = someParty();
    int what = near(0, 1);
    int hours = near(1, 4);
    int more = near(1, 6);
    int tenths = near(0, 10);
    int number = random.nextInt(3) == 0 ? 0 : near(10, 14);
    int times = near(1, 60);
    int seed = near(0, 2147483646);
    int asked = near(0, 2);
    switch (random.nextInt(4)) {
      case 0:
        same("game " + a + " " + b + " " + hours + " " + what, court.game(a, b, hours, what),
            model.game(a, b, hours, what));
        break;
      case 1:
        same("odds " + a + " " + b + " " + more + " " + tenths + " " + what, court.odds(a, b, more, tenths, what),
            model.odds(a, b, more, tenths, what));
        break;
      case 2: same("docket " + number, court.docket(number), model.docket(number)); break;
      default:
        same("terms " + times + " " + seed + " " + asked, court.terms(times, seed, asked),
            model.terms(times, seed, asked));
    }
  }

  private void move() {
    int party = someParty();
    int high = near(1, 9);
    int tile = near(0, 9);
    int step = random.nextInt(8) == 0 ? near(-1, 1) : random.nextInt(2) * 2 - 1;
    switch (random.nextInt(6)) {
      case 0: same("step " + party + " " + step, court.step(party, step), model.step(party, step)); break;
      case 1: same("stand " + party + " " + tile, court.stand(party, tile), model.stand(party, tile)); break;
      case 2: same("rise " + party + " " + high, court.rise(party, high), model.rise(party, high)); break;
      default: same("tick", court.tick(), model.tick());
    }
  }

  private void change() {
    int a = someParty();
    int b = someParty();
    int hour = near(0, 12);
    int tile = near(0, 9);
    int worth = near(0, 9);
    // What is so is seen more often, or soon no height would be left.
    boolean covers = random.nextInt(6) == 0 ? random.nextBoolean() : (model.covers(a, hour) >> tile & 1) != 0;
    switch (random.nextInt(20)) {
      case 0: same("settle", court.settle(), model.settle()); break;
      case 1: same("forget", court.forget(), model.forget()); break;
      case 2: case 3: case 4: same("lay " + tile + " " + worth, court.lay(tile, worth), model.lay(tile, worth)); break;
      case 5: if (random.nextInt(4) == 0) type(someCourt()); break;
      case 6: case 7: case 8: case 9: case 10: case 11:
        same("see " + a + " " + hour + " " + tile + " " + covers, court.see(a, hour, tile, covers),
            model.see(a, hour, tile, covers));
        break;
      default: same("file " + a + " " + b, court.file(a, b), model.file(a, b));
    }
  }
}
