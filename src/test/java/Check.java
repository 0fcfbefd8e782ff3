/** Counts the answers that are not as due, and tells them. */
final class Check {
  interface Call {
    long on(ShadowCourt court);
  }

  private final String name;
  private int right;
  private int wrong;

  Check(String name) {
    this.name = name;
  }

  void same(String what, long got, long due) {
    if (got == due) {
      right++;
      return;
    }
    wrong++;
    System.out.println(name + ": " + what + " answered " + got + ", due is " + due);
  }

  void isTrue(String what, boolean holds) {
    same(what, holds ? 1 : 0, 1);
  }

  /** The call answers the refusal, and nothing that can be told has changed. */
  void refused(String what, ShadowCourt court, long due, Call call) {
    long before = court.digest();
    same(what, call.on(court), due);
    same(what + ", digest behind it", court.digest(), before);
  }

  void end() {
    System.out.println(name + ": " + right + " answers as due, " + wrong + " not");
    if (wrong != 0 || right == 0) System.exit(1);
  }
}
