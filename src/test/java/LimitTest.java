/** The limits, reached and passed: 4 policies, 20 tariffs, 60 changes, 512 calls, and what they let come. */
public final class LimitTest {
  public static void main(String[] args) {
    fourPolicies();
    wrongBaseGoesAheadOfTheLimit();
    twentyTariffs();
    twentyTariffsOfOneDay();
    wrongTariffGoesAheadOfTheLimit();
    sixtyChanges();
    sixtyOfOneKind();
    sixtyOfOnePolicy();
    allTakenBack();
    wrongChangeGoesAheadOfTheLimit();
    mostSegments();
    highestRates();
    lowestRate();
    mostDays();
    lastOf512Calls();
    Expect.end("LimitTest");
  }

  private static void fourPolicies() {
    Backdater x = new Backdater();
    int[] bases = {1, 1000, 365, 2};
    for (int i = 0; i < 4; i++) {
      int number = i;
      Expect.dueIndex("not there yet", () -> x.billed(number));
      Expect.due("open", number, () -> x.open(bases[number]));
    }
    Expect.dueState("a fifth open", () -> x.open(5));
    Expect.dueState("again", () -> x.open(1000));
    Expect.dueIndex("no fifth policy", () -> x.rate(4, 0, 0));
    for (int i = 0; i < 4; i++) {
      int number = i;
      Expect.due("the base of each", bases[number], () -> x.rate(number, 364, 0));
      Expect.due("a change of each", number, () -> x.change(number, number % 3, 0, number + 1));
      Expect.due("its rate", bases[number] + number + 1, () -> x.rate(number, 0, 0));
      Expect.due("its bill", bases[number] + number + 1, () -> x.bill(number));
    }
  }

  private static void wrongBaseGoesAheadOfTheLimit() {
    Backdater x = Story.FULL.begun();
    Expect.dueArgument("a fifth open, base 0", () -> x.open(0));
    Expect.dueArgument("a fifth open, base 1001", () -> x.open(1001));
    Expect.dueState("a fifth open, base 1", () -> x.open(1));
  }

  /** 7 of the fields 0 and 1, 6 of the field 2: the limit is one for all fields. */
  private static void twentyTariffs() {
    Backdater x = new Backdater();
    x.open(1);
    for (int field = 0; field < 3; field++) {
      x.change(0, field, 0, 1);
    }
    for (int i = 0; i < 20; i++) {
      int number = i;
      Expect.due("tariffs", number + 1, () -> x.setWeight(number % 3, number, 10 * number));
    }
    for (int field = 0; field < 3; field++) {
      int of = field;
      Expect.dueState("a 21st tariff", () -> x.setWeight(of, 50, 0));
      Expect.dueState("a 21st tariff, the last day", () -> x.setWeight(of, 100, 364));
    }
    Expect.due("on the day 0: 0, 1, 1", 3, () -> x.rate(0, 0, 0));
    Expect.due("on the day 10: 0, 1, 1", 3, () -> x.rate(0, 10, 0));
    Expect.due("on the day 20: 0, 1, 2", 4, () -> x.rate(0, 20, 0));
    for (int i = 2; i < 20; i++) {
      int number = i;
      Expect.due("each tariff is in force", 3 * number - 2, () -> x.rate(0, 10 * number, 0));
    }
    Expect.due("up to the last day", 55, () -> x.rate(0, 364, 0));
  }

  private static void twentyTariffsOfOneDay() {
    Backdater x = new Backdater();
    x.open(1);
    x.change(0, 1, 0, 1);
    for (int i = 1; i <= 20; i++) {
      int number = i;
      Expect.due("tariffs", number, () -> x.setWeight(1, 100 - 5 * number, 200));
      Expect.due("the one told last", 101 - 5 * number, () -> x.rate(0, 200, 0));
      Expect.due("ahead of it", 2, () -> x.rate(0, 199, 0));
    }
    Expect.dueState("a 21st tariff", () -> x.setWeight(1, 77, 200));
    Expect.due("the twentieth stays", 1, () -> x.rate(0, 364, 0));
  }

  private static void wrongTariffGoesAheadOfTheLimit() {
    Backdater x = Story.FULL.begun();
    Expect.dueIndex("field -1", () -> x.setWeight(-1, 0, 0));
    Expect.dueIndex("field 3", () -> x.setWeight(3, 101, 365));
    Expect.dueArgument("weight -1", () -> x.setWeight(0, -1, 0));
    Expect.dueArgument("weight 101", () -> x.setWeight(0, 101, 0));
    Expect.dueArgument("from -1", () -> x.setWeight(0, 0, -1));
    Expect.dueArgument("from 365", () -> x.setWeight(0, 0, 365));
    Expect.dueState("nothing wrong", () -> x.setWeight(0, 0, 0));
  }

  /** 15 of each of the four policies: the limit is one for all, and what was taken back counts. */
  private static void sixtyChanges() {
    Backdater x = new Backdater();
    for (int policy = 0; policy < 4; policy++) {
      x.open(1);
    }
    for (int i = 0; i < 60; i++) {
      int number = i;
      Expect.due("changes ahead of it", number, x::changes);
      Expect.due("change", number, () -> x.add(number % 4, 0, 364 - number, 1));
    }
    Expect.due("changes", 60, x::changes);
    for (int i = 0; i < 4; i++) {
      int policy = i;
      Expect.due("all are laid in", 15, () -> x.value(policy, 0, 364, 0));
      Expect.dueState("a 61st change", () -> x.change(policy, 0, 0, 0));
      Expect.dueState("a 61st add", () -> x.add(policy, 0, 0, 1));
      Expect.dueState("a 61st cancel", () -> x.cancel(policy, 0));
      Expect.dueState("a 61st reinstate", () -> x.reinstate(policy, 0));
    }
    Expect.dueIndex("no 61st to take back", () -> x.takeBack(60));
    Expect.dueIndex("no 61st to ask for", () -> x.laidAnew(60));
    Expect.due("the sixtieth came ahead of 14", 14, () -> x.laidAnew(59));
    Expect.due("the sixtieth is taken back", 0, () -> x.takeBack(59));
    Expect.dueState("which makes no room", () -> x.change(3, 0, 0, 0));
    Expect.due("nor lessens the changes", 60, x::changes);
    Expect.due("one is out", 14, () -> x.value(3, 0, 364, 0));
  }

  private static void sixtyOfOneKind() {
    for (int kind = 0; kind < 4; kind++) {
      Backdater x = new Backdater();
      x.open(1);
      for (int i = 0; i < 60; i++) {
        int number = i;
        int told = kind;
        Expect.due("kind " + kind, number, () -> tellOfKind(x, told));
      }
      int told = kind;
      Expect.dueState("a 61st of kind " + kind, () -> tellOfKind(x, told));
      Expect.due("changes", 60, x::changes);
    }
  }

  private static int tellOfKind(Backdater x, int kind) {
    switch (kind) {
      case 0:
        return x.change(0, 2, 364, 20);
      case 1:
        return x.add(0, 2, 364, -20);
      case 2:
        return x.cancel(0, 364);
      default:
        return x.reinstate(0, 364);
    }
  }

  private static void sixtyOfOnePolicy() {
    Backdater x = new Backdater();
    x.open(1);
    for (int i = 0; i < 60; i++) {
      x.change(0, 1, 6 * (59 - i), i % 20 + 1);
    }
    for (int i = 0; i < 60; i++) {
      int number = i;
      int from = 6 * (59 - i);
      Expect.due("told ahead of all others", number, () -> x.laidAnew(number));
      Expect.due("on its first day", number % 20 + 1, () -> x.value(0, 1, from, 0));
      Expect.due("on its last day", number % 20 + 1, () -> x.value(0, 1, from + 5, 0));
    }
    Expect.due("segments", 60, () -> x.segments(0, 0));
  }

  private static void allTakenBack() {
    Backdater x = new Backdater();
    x.open(365);
    for (int i = 0; i < 60; i++) {
      x.add(0, i % 3, i, 1);
    }
    x.pass(1);
    for (int i = 0; i < 60; i++) {
      int number = i;
      Expect.due("takeBack", 0, () -> x.takeBack(number));
      Expect.dueState("takeBack again", () -> x.takeBack(number));
    }
    Expect.due("changes", 60, x::changes);
    Expect.dueState("no room", () -> x.add(0, 0, 0, 1));
    Expect.due("the premium as at first", 365, () -> x.premium(0, 1));
    Expect.due("one segment", 1, () -> x.segments(0, 1));
    Expect.due("sixty segments as known ahead", 60, () -> x.segments(0, 0));
    Expect.due("none to be laid in anew", 0, () -> x.laidAnew(59));
  }

  private static void wrongChangeGoesAheadOfTheLimit() {
    Backdater x = Story.FULL.begun();
    Expect.dueIndex("change: policy", () -> x.change(4, 0, 0, 0));
    Expect.dueIndex("change: field", () -> x.change(0, 3, 365, 21));
    Expect.dueArgument("change: from", () -> x.change(0, 0, 365, 0));
    Expect.dueArgument("change: value", () -> x.change(0, 0, 0, 21));
    Expect.dueIndex("add: policy", () -> x.add(-1, 0, 0, 0));
    Expect.dueIndex("add: field", () -> x.add(0, -1, -1, -21));
    Expect.dueArgument("add: from", () -> x.add(0, 0, -1, 0));
    Expect.dueArgument("add: number", () -> x.add(0, 0, 0, -21));
    Expect.dueIndex("cancel: policy", () -> x.cancel(4, 365));
    Expect.dueArgument("cancel: from", () -> x.cancel(0, 365));
    Expect.dueIndex("reinstate: policy", () -> x.reinstate(-1, -1));
    Expect.dueArgument("reinstate: from", () -> x.reinstate(0, -1));
    Expect.due("the policies stay covered or not", Story.FULL.begun().isCovered(0, 0, 160),
        () -> x.isCovered(0, 0, 160));
  }

  /** 60 changes and 20 tariffs begin a segment each, and the day 0 begins one. */
  private static void mostSegments() {
    Backdater x = new Backdater();
    x.open(1);
    for (int i = 0; i < 60; i++) {
      x.change(0, 0, 4 * i + 1, i % 2 + 1);
    }
    for (int i = 0; i < 20; i++) {
      x.setWeight(0, i + 2, 4 * i + 3);
    }
    Expect.due("segments", 81, () -> x.segments(0, 0));
    Expect.due("the first start", 0, () -> x.segmentStart(0, 0, 0));
    Expect.due("the second start", 1, () -> x.segmentStart(0, 1, 0));
    Expect.due("the start of a tariff", 3, () -> x.segmentStart(0, 2, 0));
    Expect.due("the last start", 237, () -> x.segmentStart(0, 80, 0));
    Expect.dueIndex("no start behind it", () -> x.segmentStart(0, 81, 0));
    Expect.dueIndex("no premium behind it", () -> x.segmentPremium(0, 81, 0));
    int sum = 0;
    for (int segment = 0; segment < 81; segment++) {
      sum += x.segmentPremium(0, segment, 0);
    }
    int total = sum;
    Expect.due("the premium is their sum", total, () -> x.premium(0, 0));
    Expect.due("and the same by days", total, () -> x.premiumByDays(0, 0));
  }

  private static void highestRates() {
    Backdater x = new Backdater();
    for (int policy = 0; policy < 4; policy++) {
      x.open(1000);
      for (int field = 0; field < 3; field++) {
        x.change(policy, field, 0, 20);
        x.setWeight(field, 100, 0);
      }
    }
    for (int i = 0; i < 4; i++) {
      int policy = i;
      Expect.due("the highest rate on the first day", 7000, () -> x.rate(policy, 0, 0));
      Expect.due("and on the last", 7000, () -> x.rate(policy, 364, 0));
      Expect.due("the highest segment premium", 7000, () -> x.segmentPremium(policy, 0, 0));
      Expect.due("the highest premium", 7000, () -> x.premium(policy, 0));
      Expect.due("the same by days", 7000, () -> x.premiumByDays(policy, 0));
      Expect.due("the highest bill", 7000, () -> x.bill(policy));
      x.cancel(policy, 0);
      Expect.due("all of it goes back", -7000, () -> x.bill(policy));
      Expect.due("billed", 0, () -> x.billed(policy));
    }
  }

  private static void lowestRate() {
    Backdater x = new Backdater();
    x.open(1);
    for (int field = 0; field < 3; field++) {
      x.change(0, field, 0, 20);
      x.setWeight(field, 0, 0);
    }
    Expect.due("the lowest rate with cover", 1, () -> x.rate(0, 0, 0));
    Expect.due("its premium", 1, () -> x.premium(0, 0));
    Expect.due("is a segment", 1, () -> x.segments(0, 0));
    x.cancel(0, 364);
    Expect.due("a day less than a year rounds down", 0, () -> x.premium(0, 0));
    Expect.due("by days too", 0, () -> x.premiumByDays(0, 0));
  }

  /** The days told go on behind the 365 for which a policy is. */
  private static void mostDays() {
    Backdater x = new Backdater();
    x.open(365);
    for (int i = 1; i <= 500; i++) {
      int passed = i;
      Expect.due("pass", 100 * passed, () -> x.pass(100));
    }
    Expect.due("today", 50000, x::today);
    x.change(0, 0, 0, 20);
    Expect.due("known today", 385, () -> x.premium(0, 50000));
    Expect.due("not known yesterday", 365, () -> x.premium(0, 49999));
    Expect.dueArgument("tomorrow", () -> x.premium(0, 50001));
    Expect.due("the day of telling", 50000, () -> x.takeBack(0));
    Expect.due("bill", 365, () -> x.bill(0));
  }

  private static void lastOf512Calls() {
    Backdater x = new Backdater();
    int calls = 0;
    for (int i = 0; i < 4; i++, calls++) {
      x.open(365);
    }
    for (int i = 0; i < 20; i++, calls++) {
      x.setWeight(0, i, i);
    }
    for (int i = 0; i < 60; i++, calls++) {
      x.change(0, 1, i, i % 20);
    }
    for (; calls < 511; calls++) {
      int number = calls;
      Expect.due("call " + number, number % 2 == 0 ? 365 + (3 * 190 + 305 * 19) / 365 : 365,
          () -> number % 2 == 0 ? x.premium(0, 0) : x.premiumByDays(1, 0));
    }
    Expect.due("the 512th call", 384, () -> x.rate(0, 59, 0));
  }
}
