/** Nothing there yet: no policy, no change, no tariff, no segment, no day passed, nothing billed. */
public final class EmptyTest {
  private static final int NONE = Backdater.NONE;

  public static void main(String[] args) {
    newObject();
    noPolicy();
    noChange();
    noTariff();
    noSegment();
    noDayPassed();
    nothingBilled();
    policyOpenedLater();
    tariffAheadOfPolicies();
    Expect.end("EmptyTest");
  }

  private static void newObject() {
    Backdater x = new Backdater();
    Expect.due("NONE", -1, () -> Backdater.NONE);
    Expect.due("today of a new object", 0, x::today);
    Expect.due("changes of a new object", 0, x::changes);
    Expect.due("the first policy's number", 0, () -> x.open(7));
    Expect.due("the first tariff's count", 1, () -> x.setWeight(0, 1, 0));
    Expect.due("the first change's number", 0, () -> x.cancel(0, 0));
    Expect.due("still today", 0, x::today);
  }

  private static void noPolicy() {
    Backdater x = new Backdater();
    for (int policy : new int[] {0, NONE, 1}) {
      Expect.dueIndex("change", () -> x.change(policy, 0, 0, 0));
      Expect.dueIndex("add", () -> x.add(policy, 0, 0, 0));
      Expect.dueIndex("cancel", () -> x.cancel(policy, 0));
      Expect.dueIndex("reinstate", () -> x.reinstate(policy, 0));
      Expect.dueIndex("value", () -> x.value(policy, 0, 0, 0));
      Expect.dueIndex("isCovered", () -> x.isCovered(policy, 0, 0));
      Expect.dueIndex("rate", () -> x.rate(policy, 0, 0));
      Expect.dueIndex("segments", () -> x.segments(policy, 0));
      Expect.dueIndex("segmentStart", () -> x.segmentStart(policy, 0, 0));
      Expect.dueIndex("segmentPremium", () -> x.segmentPremium(policy, 0, 0));
      Expect.dueIndex("premium", () -> x.premium(policy, 0));
      Expect.dueIndex("premiumByDays", () -> x.premiumByDays(policy, 0));
      Expect.dueIndex("bill", () -> x.bill(policy));
      Expect.dueIndex("billed", () -> x.billed(policy));
    }
    Expect.due("days pass without a policy", 100, () -> x.pass(100));
    Expect.dueIndex("no policy comes by that", () -> x.premium(0, 100));
    Expect.due("no change was told", 0, x::changes);
  }

  private static void noChange() {
    Backdater x = new Backdater();
    x.open(730);
    x.pass(5);
    for (int change : new int[] {0, NONE, 1}) {
      Expect.dueIndex("takeBack", () -> x.takeBack(change));
      Expect.dueIndex("laidAnew", () -> x.laidAnew(change));
    }
    for (int day : new int[] {0, 182, 364}) {
      for (int field = 0; field < 3; field++) {
        int asked = field;
        Expect.due("each field has the value 0 at first", 0, () -> x.value(0, asked, day, 5));
      }
      Expect.due("it is covered at first", true, () -> x.isCovered(0, day, 5));
      Expect.due("the rate is the base", 730, () -> x.rate(0, day, 0));
    }
    Expect.due("one segment", 1, () -> x.segments(0, 5));
    Expect.due("from the first day", 0, () -> x.segmentStart(0, 0, 5));
    Expect.due("over all days", 730, () -> x.segmentPremium(0, 0, 5));
    Expect.dueIndex("and no second one", () -> x.segmentStart(0, 1, 5));
    Expect.due("premium", 730, () -> x.premium(0, 5));
    Expect.due("by days", 730, () -> x.premiumByDays(0, 5));
  }

  private static void noTariff() {
    Backdater x = new Backdater();
    x.open(100);
    x.change(0, 0, 0, 20);
    x.change(0, 1, 0, 7);
    x.change(0, 2, 0, 3);
    Expect.due("the weight of each field is 1 at first", 130, () -> x.rate(0, 0, 0));
    Expect.due("up to the last day", 130, () -> x.rate(0, 364, 0));
    x.change(0, 0, 0, 0);
    Expect.due("without the field 0", 110, () -> x.rate(0, 0, 0));
    x.change(0, 1, 0, 0);
    Expect.due("without the field 1", 103, () -> x.rate(0, 0, 0));
    x.change(0, 2, 0, 0);
    Expect.due("the base alone", 100, () -> x.rate(0, 0, 0));
  }

  private static void noSegment() {
    Backdater x = new Backdater();
    x.open(1000);
    x.cancel(0, 0);
    Expect.due("segments", 0, () -> x.segments(0, 0));
    for (int segment : new int[] {0, NONE, 1}) {
      Expect.dueIndex("segmentStart", () -> x.segmentStart(0, segment, 0));
      Expect.dueIndex("segmentPremium", () -> x.segmentPremium(0, segment, 0));
    }
    Expect.due("premium", 0, () -> x.premium(0, 0));
    Expect.due("by days", 0, () -> x.premiumByDays(0, 0));
    Expect.due("bill", 0, () -> x.bill(0));
    Expect.due("billed", 0, () -> x.billed(0));
    Expect.due("rate", 0, () -> x.rate(0, 364, 0));
    Expect.due("a field is set without cover", 1, () -> x.change(0, 0, 0, 9));
    Expect.due("still no segment", 0, () -> x.segments(0, 0));
    Expect.due("but a value", 9, () -> x.value(0, 0, 0, 0));
  }

  private static void noDayPassed() {
    Backdater x = new Backdater();
    x.open(5);
    Expect.due("known on 0", 5, () -> x.premium(0, 0));
    for (int known : new int[] {1, NONE}) {
      Expect.dueArgument("value", () -> x.value(0, 0, 0, known));
      Expect.dueArgument("isCovered", () -> x.isCovered(0, 0, known));
      Expect.dueArgument("rate", () -> x.rate(0, 0, known));
      Expect.dueArgument("segments", () -> x.segments(0, known));
      Expect.dueArgument("segmentStart", () -> x.segmentStart(0, 0, known));
      Expect.dueArgument("segmentPremium", () -> x.segmentPremium(0, 0, known));
      Expect.dueArgument("premium", () -> x.premium(0, known));
      Expect.dueArgument("premiumByDays", () -> x.premiumByDays(0, known));
    }
    x.pass(1);
    Expect.due("known on 1, as soon as it is today", 5, () -> x.premium(0, 1));
  }

  private static void nothingBilled() {
    Backdater x = new Backdater();
    x.open(3);
    x.open(4);
    Expect.due("billed at first", 0, () -> x.billed(0));
    x.premium(0, 0);
    Expect.due("asking for the premium bills nothing", 0, () -> x.billed(0));
    x.bill(1);
    Expect.due("nor does a bill of another policy", 0, () -> x.billed(0));
  }

  /** A version follows from changes alone, so the day on which a policy was opened hides nothing. */
  private static void policyOpenedLater() {
    Backdater x = new Backdater();
    x.pass(50);
    x.open(365);
    Expect.due("covered, as known on 0", true, () -> x.isCovered(0, 0, 0));
    Expect.due("rate, as known on 0", 365, () -> x.rate(0, 0, 0));
    Expect.due("segments, as known on 49", 1, () -> x.segments(0, 49));
    Expect.due("premium, as known on 49", 365, () -> x.premium(0, 49));
  }

  private static void tariffAheadOfPolicies() {
    Backdater x = new Backdater();
    Expect.due("a tariff without a policy", 1, () -> x.setWeight(2, 50, 0));
    x.open(10);
    x.change(0, 2, 0, 2);
    Expect.due("it holds for a policy opened later", 110, () -> x.rate(0, 0, 0));
  }
}
