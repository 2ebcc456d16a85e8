/**
 * What an object answers to all that can be asked of it, and then to being led on. Objects that stand alike
 * give the same text, so what a call has left behind unseen shows when the object is led on.
 */
final class Picture {
  private static final int[] DAYS = {0, 29, 30, 199, 200, 364};

  private final StringBuilder text = new StringBuilder();
  private final Backdater x;

  private Picture(Backdater x) {
    this.x = x;
  }

  /** Some 335 calls on a full object, so that the object stays within its 512. */
  static String of(Backdater x) {
    Picture picture = new Picture(x);
    picture.ask();
    picture.leadOn();
    return picture.text.toString();
  }

  /** The first line in which two pictures differ, empty if there is none. */
  static String difference(String one, String other) {
    String[] lines = one.split("\n");
    String[] others = other.split("\n");
    for (int i = 0; i < Math.min(lines.length, others.length); i++) {
      if (!lines[i].equals(others[i])) {
        return lines[i] + " became " + others[i];
      }
    }
    return lines.length == others.length ? "" : "one of the pictures ends earlier";
  }

  private void put(String call, Expect.Call made) {
    text.append(call).append(' ').append(Expect.outcome(made)).append('\n');
  }

  private void ask() {
    put("today", x::today);
    put("changes", x::changes);
    int changes = x.changes();
    for (int change = 0; change <= changes; change++) {
      int asked = change;
      put("laidAnew " + change, () -> x.laidAnew(asked));
    }
    for (int policy = 0; policy < 4; policy++) {
      int asked = policy;
      put("billed " + policy, () -> x.billed(asked));
      if (Expect.outcome(() -> x.billed(asked)) instanceof Integer) {
        askPolicy(policy);
      }
    }
  }

  private void askPolicy(int policy) {
    int today = x.today();
    for (int known : new int[] {0, today / 2, Math.max(today - 1, 0), today}) {
      put("premium " + policy, () -> x.premium(policy, known));
      put("segments " + policy, () -> x.segments(policy, known));
    }
    put("premiumByDays " + policy, () -> x.premiumByDays(policy, today));
    for (int segment = 0; segment < 3; segment++) {
      int asked = segment;
      put("segmentStart " + policy, () -> x.segmentStart(policy, asked, today));
      put("segmentPremium " + policy, () -> x.segmentPremium(policy, asked, today));
    }
    for (int day : DAYS) {
      put("isCovered " + policy, () -> x.isCovered(policy, day, today));
      put("rate " + policy, () -> x.rate(policy, day, today));
      for (int field = 0; field < 3; field++) {
        int asked = field;
        put("value " + policy, () -> x.value(policy, asked, day, today));
      }
    }
  }

  private void leadOn() {
    put("bill", () -> x.bill(0));
    put("setWeight", () -> x.setWeight(1, 99, 100));
    put("open", () -> x.open(77));
    put("change", () -> x.change(0, 1, 50, 19));
    put("pass", () -> x.pass(1));
    int changes = x.changes();
    for (int change = 0; change <= changes; change++) {
      int taken = change;
      put("takeBack " + change, () -> x.takeBack(taken));
    }
    for (int policy = 0; policy < 5; policy++) {
      int billed = policy;
      put("bill " + policy, () -> x.bill(billed));
      put("billed " + policy, () -> x.billed(billed));
    }
  }
}
