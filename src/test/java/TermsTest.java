/** The sentences of 'What it is' and 'Terms': on the very day, the day ahead of it and the day behind it. */
public final class TermsTest {
  public static void main(String[] args) {
    knownFromTheDayOfTelling();
    notKnownFromTheDayOfTakingBack();
    toldAndTakenBackOnOneDay();
    toldAndTakenBackOnTheDay0();
    eachOfSeveralIsKnownByItself();
    holdsFromItsDay();
    laidInByDayNotByNumber();
    sameDayByNumber();
    takenBackLeavesTheOrder();
    addingNotAbove20();
    addingNotBelow0();
    addingIsCutOffEachTime();
    settingForgetsWhatWasAdded();
    coverIsOnOrOff();
    valuesGoOnWithoutCover();
    latestTariffThatIsNotLater();
    tariffToldLastOfOneDay();
    tariffOfOneFieldAlone();
    tariffAsIfAlwaysKnown();
    rateIsTheSum();
    segmentsAreAsLongAsPossible();
    segmentsOfOneDay();
    gapOfOneDay();
    sameRateByOtherValues();
    chargeIsRoundedDown();
    roundingsOfSegments();
    premiumsAgree();
    billOfTheSameDay();
    billGoesBack();
    billIsAsKnownToday();
    laidAnewIsStrict();
    laidAnewAsKnownToday();
    Expect.end("TermsTest");
  }

  // ---- known on a day

  private static void knownFromTheDayOfTelling() {
    Backdater x = new Backdater();
    x.open(100);
    x.pass(10);
    x.change(0, 0, 0, 5);
    x.cancel(0, 200);
    x.pass(10);
    Expect.due("value, the day ahead", 0, () -> x.value(0, 0, 0, 9));
    Expect.due("value, the day", 5, () -> x.value(0, 0, 0, 10));
    Expect.due("value, the day behind", 5, () -> x.value(0, 0, 0, 11));
    Expect.due("cover, the day ahead", true, () -> x.isCovered(0, 200, 9));
    Expect.due("cover, the day", false, () -> x.isCovered(0, 200, 10));
    Expect.due("rate, the day ahead", 100, () -> x.rate(0, 0, 9));
    Expect.due("rate, the day", 105, () -> x.rate(0, 0, 10));
    Expect.due("premium, the day ahead", 100, () -> x.premium(0, 9));
    Expect.due("premium, the day", 105 * 200 / 365, () -> x.premium(0, 10));
    Expect.due("by days, the day ahead", 100, () -> x.premiumByDays(0, 9));
    Expect.due("by days, the day", 105 * 200 / 365, () -> x.premiumByDays(0, 10));
  }

  private static void notKnownFromTheDayOfTakingBack() {
    Backdater x = new Backdater();
    x.open(100);
    x.change(0, 0, 0, 5);
    x.pass(10);
    x.takeBack(0);
    x.pass(10);
    Expect.due("the day of telling", 5, () -> x.value(0, 0, 0, 0));
    Expect.due("the day ahead of taking back", 5, () -> x.value(0, 0, 0, 9));
    Expect.due("the day of taking back", 0, () -> x.value(0, 0, 0, 10));
    Expect.due("the day behind", 0, () -> x.value(0, 0, 0, 11));
    Expect.due("today", 0, () -> x.value(0, 0, 0, 20));
  }

  private static void toldAndTakenBackOnOneDay() {
    Backdater x = new Backdater();
    x.open(100);
    x.pass(4);
    x.cancel(0, 0);
    Expect.due("known as long as it stands", false, () -> x.isCovered(0, 0, 4));
    Expect.due("the day of telling", 4, () -> x.takeBack(0));
    x.pass(1);
    for (int known = 0; known <= 5; known++) {
      int on = known;
      Expect.due("never known", true, () -> x.isCovered(0, 0, on));
    }
  }

  /** The day 0 is a day like others, not one on which nothing was taken back. */
  private static void toldAndTakenBackOnTheDay0() {
    Backdater x = new Backdater();
    x.open(100);
    x.change(0, 0, 0, 8);
    Expect.due("the day of telling", 0, () -> x.takeBack(0));
    Expect.due("not known", 0, () -> x.value(0, 0, 0, 0));
    Expect.dueState("taken back", () -> x.takeBack(0));
    x.pass(1);
    Expect.due("nor later", 0, () -> x.value(0, 0, 0, 1));
    Expect.dueState("taken back, later", () -> x.takeBack(0));
  }

  private static void eachOfSeveralIsKnownByItself() {
    Backdater x = new Backdater();
    x.open(100);
    x.add(0, 0, 0, 1);
    x.pass(1);
    x.add(0, 0, 0, 2);
    x.pass(1);
    x.add(0, 0, 0, 4);
    x.takeBack(0);
    x.pass(1);
    x.add(0, 0, 0, 8);
    x.takeBack(1);
    int[] sums = {1, 3, 6, 12};
    for (int known = 0; known <= 3; known++) {
      int on = known;
      Expect.due("known on " + on, sums[on], () -> x.value(0, 0, 0, on));
    }
  }

  // ---- versions

  private static void holdsFromItsDay() {
    Backdater x = new Backdater();
    x.open(100);
    x.change(0, 0, 50, 5);
    x.add(0, 1, 60, 6);
    x.cancel(0, 70);
    x.reinstate(0, 80);
    int[] values = {0, 5, 5};
    int[] sums = {0, 6, 6};
    for (int i = 0; i < 3; i++) {
      int behind = i - 1;
      Expect.due("set", values[i], () -> x.value(0, 0, 50 + behind, 0));
      Expect.due("added", sums[i], () -> x.value(0, 1, 60 + behind, 0));
      Expect.due("cancelled", behind < 0, () -> x.isCovered(0, 70 + behind, 0));
      Expect.due("reinstated", behind >= 0, () -> x.isCovered(0, 80 + behind, 0));
    }
    Expect.due("up to the last day", 5, () -> x.value(0, 0, 364, 0));
  }

  private static void laidInByDayNotByNumber() {
    Backdater x = new Backdater();
    x.open(100);
    x.change(0, 0, 101, 1);
    x.change(0, 0, 100, 2);
    x.change(0, 0, 99, 3);
    x.reinstate(0, 101);
    x.cancel(0, 100);
    Expect.due("from 99", 3, () -> x.value(0, 0, 99, 0));
    Expect.due("from 100", 2, () -> x.value(0, 0, 100, 0));
    Expect.due("from 101", 1, () -> x.value(0, 0, 101, 0));
    Expect.due("the last day", 1, () -> x.value(0, 0, 364, 0));
    Expect.due("cancelled from 100", false, () -> x.isCovered(0, 100, 0));
    Expect.due("reinstated from 101", true, () -> x.isCovered(0, 101, 0));
  }

  private static void sameDayByNumber() {
    Backdater x = new Backdater();
    x.open(100);
    x.change(0, 0, 0, 7);
    x.change(0, 0, 0, 9);
    x.add(0, 1, 364, 5);
    x.change(0, 1, 364, 2);
    x.change(0, 2, 364, 2);
    x.add(0, 2, 364, 5);
    x.cancel(0, 0);
    x.reinstate(0, 0);
    x.reinstate(0, 364);
    x.cancel(0, 364);
    Expect.due("set, set", 9, () -> x.value(0, 0, 0, 0));
    Expect.due("added, set", 2, () -> x.value(0, 1, 364, 0));
    Expect.due("set, added", 7, () -> x.value(0, 2, 364, 0));
    Expect.due("cancelled, reinstated", true, () -> x.isCovered(0, 0, 0));
    Expect.due("reinstated, cancelled", false, () -> x.isCovered(0, 364, 0));
    x.pass(1);
    x.change(0, 0, 0, 4);
    Expect.due("told later", 4, () -> x.value(0, 0, 0, 1));
    Expect.due("as known ahead of it", 9, () -> x.value(0, 0, 0, 0));
  }

  private static void takenBackLeavesTheOrder() {
    Backdater x = new Backdater();
    x.open(100);
    x.change(0, 0, 10, 7);
    x.change(0, 0, 10, 8);
    x.change(0, 0, 10, 9);
    x.takeBack(1);
    Expect.due("the last of the day", 9, () -> x.value(0, 0, 10, 0));
    x.takeBack(2);
    Expect.due("the first of the day", 7, () -> x.value(0, 0, 10, 0));
    x.change(0, 0, 10, 3);
    Expect.due("a new one", 3, () -> x.value(0, 0, 10, 0));
    x.takeBack(0);
    x.takeBack(3);
    Expect.due("none", 0, () -> x.value(0, 0, 10, 0));
  }

  private static void addingNotAbove20() {
    Backdater x = new Backdater();
    x.open(100);
    x.change(0, 0, 0, 15);
    x.add(0, 0, 10, 4);
    x.add(0, 0, 20, 1);
    x.add(0, 0, 30, 1);
    x.add(0, 0, 40, 20);
    int[] values = {15, 19, 20, 20, 20};
    for (int i = 0; i < 5; i++) {
      int day = 10 * i;
      Expect.due("on " + day, values[i], () -> x.value(0, 0, day, 0));
    }
  }

  private static void addingNotBelow0() {
    Backdater x = new Backdater();
    x.open(100);
    x.change(0, 0, 0, 5);
    x.add(0, 0, 10, -4);
    x.add(0, 0, 20, -1);
    x.add(0, 0, 30, -1);
    x.add(0, 0, 40, -20);
    int[] values = {5, 1, 0, 0, 0};
    for (int i = 0; i < 5; i++) {
      int day = 10 * i;
      Expect.due("on " + day, values[i], () -> x.value(0, 0, day, 0));
    }
  }

  private static void addingIsCutOffEachTime() {
    Backdater x = new Backdater();
    x.open(100);
    x.add(0, 0, 10, 20);
    x.add(0, 0, 10, 5);
    x.add(0, 0, 10, -5);
    Expect.due("20, 20, 15", 15, () -> x.value(0, 0, 10, 0));
    x.add(0, 1, 10, -5);
    x.add(0, 1, 10, 5);
    Expect.due("0, 5", 5, () -> x.value(0, 1, 10, 0));
    x.add(0, 1, 5, 2);
    Expect.due("2, 0, 5", 5, () -> x.value(0, 1, 10, 0));
    x.add(0, 0, 5, 3);
    Expect.due("3, 20, 20, 15", 15, () -> x.value(0, 0, 10, 0));
  }

  private static void settingForgetsWhatWasAdded() {
    Backdater x = new Backdater();
    x.open(100);
    x.add(0, 0, 10, 20);
    x.change(0, 0, 20, 20);
    x.change(0, 0, 30, 0);
    x.add(0, 0, 40, 20);
    Expect.due("set to what it was", 20, () -> x.value(0, 0, 20, 0));
    Expect.due("set to 0", 0, () -> x.value(0, 0, 30, 0));
    Expect.due("added to 0", 20, () -> x.value(0, 0, 40, 0));
  }

  private static void coverIsOnOrOff() {
    Backdater x = new Backdater();
    x.open(100);
    x.reinstate(0, 10);
    x.cancel(0, 20);
    x.cancel(0, 30);
    x.reinstate(0, 40);
    x.reinstate(0, 50);
    x.cancel(0, 60);
    boolean[] covered = {true, true, false, false, true, true, false};
    for (int i = 0; i < 7; i++) {
      int day = 10 * i;
      Expect.due("on " + day, covered[i], () -> x.isCovered(0, day, 0));
    }
    x.takeBack(1);
    Expect.due("one of two cancellings taken back, ahead of the other", true, () -> x.isCovered(0, 20, 0));
    Expect.due("from the other", false, () -> x.isCovered(0, 30, 0));
  }

  private static void valuesGoOnWithoutCover() {
    Backdater x = new Backdater();
    x.open(100);
    x.change(0, 0, 0, 5);
    x.cancel(0, 10);
    x.add(0, 0, 20, 3);
    x.reinstate(0, 30);
    Expect.due("as it was", 5, () -> x.value(0, 0, 10, 0));
    Expect.due("added without cover", 8, () -> x.value(0, 0, 20, 0));
    Expect.due("the rate is 0", 0, () -> x.rate(0, 20, 0));
    Expect.due("as it has become", 108, () -> x.rate(0, 30, 0));
  }

  // ---- weights and rates

  private static void latestTariffThatIsNotLater() {
    Backdater x = new Backdater();
    x.open(100);
    x.change(0, 0, 0, 1);
    x.setWeight(0, 30, 300);
    x.setWeight(0, 10, 100);
    x.setWeight(0, 20, 200);
    int[] days = {0, 99, 100, 101, 199, 200, 201, 299, 300, 301, 364};
    int[] weights = {1, 1, 10, 10, 10, 20, 20, 20, 30, 30, 30};
    for (int i = 0; i < days.length; i++) {
      int at = i;
      Expect.due("on " + days[i], 100 + weights[i], () -> x.rate(0, days[at], 0));
    }
  }

  private static void tariffToldLastOfOneDay() {
    Backdater x = new Backdater();
    x.open(100);
    x.change(0, 0, 0, 1);
    x.setWeight(0, 50, 100);
    x.setWeight(0, 60, 200);
    x.setWeight(0, 70, 100);
    Expect.due("the one told last", 170, () -> x.rate(0, 100, 0));
    Expect.due("up to the next", 170, () -> x.rate(0, 199, 0));
    Expect.due("the next stays", 160, () -> x.rate(0, 200, 0));
    x.setWeight(0, 40, 100);
    Expect.due("a lower weight too", 140, () -> x.rate(0, 100, 0));
    x.setWeight(0, 0, 0);
    Expect.due("from the day 0, over the weight at first", 100, () -> x.rate(0, 0, 0));
    x.setWeight(0, 2, 0);
    Expect.due("and told anew", 102, () -> x.rate(0, 99, 0));
    Expect.due("not over a later day", 140, () -> x.rate(0, 100, 0));
  }

  private static void tariffOfOneFieldAlone() {
    Backdater x = new Backdater();
    x.open(100);
    x.change(0, 0, 0, 1);
    x.change(0, 1, 0, 1);
    x.change(0, 2, 0, 1);
    x.setWeight(1, 50, 100);
    x.setWeight(2, 7, 200);
    x.setWeight(0, 3, 100);
    Expect.due("ahead", 103, () -> x.rate(0, 99, 0));
    Expect.due("50, 3 and 1", 154, () -> x.rate(0, 100, 0));
    Expect.due("50, 3 and 1", 154, () -> x.rate(0, 199, 0));
    Expect.due("a later tariff of another field takes none away", 160, () -> x.rate(0, 200, 0));
  }

  private static void tariffAsIfAlwaysKnown() {
    Backdater x = new Backdater();
    x.open(365);
    x.change(0, 0, 0, 1);
    Expect.due("the bill", 366, () -> x.bill(0));
    x.pass(100);
    x.setWeight(0, 11, 0);
    Expect.due("known on 0", 376, () -> x.rate(0, 0, 0));
    Expect.due("known on 99", 376, () -> x.premium(0, 99));
    Expect.due("known today", 376, () -> x.premiumByDays(0, 100));
    Expect.due("billed stays", 366, () -> x.billed(0));
    Expect.due("the next bill follows", 10, () -> x.bill(0));
  }

  private static void rateIsTheSum() {
    Backdater x = new Backdater();
    x.open(100);
    x.change(0, 0, 0, 1);
    x.change(0, 1, 0, 2);
    x.change(0, 2, 0, 3);
    x.setWeight(0, 7, 10);
    x.setWeight(1, 11, 20);
    x.setWeight(2, 13, 30);
    x.cancel(0, 40);
    Expect.due("all weights 1", 106, () -> x.rate(0, 9, 0));
    Expect.due("7 for the first", 112, () -> x.rate(0, 10, 0));
    Expect.due("11 for the second", 132, () -> x.rate(0, 20, 0));
    Expect.due("13 for the third", 168, () -> x.rate(0, 39, 0));
    Expect.due("0 if it is not covered", 0, () -> x.rate(0, 40, 0));
  }

  // ---- segments and premiums

  private static void segmentsAreAsLongAsPossible() {
    Backdater x = new Backdater();
    x.open(100);
    x.change(0, 0, 100, 5);
    x.change(0, 0, 200, 5);
    x.add(0, 0, 250, 0);
    x.reinstate(0, 260);
    x.change(0, 1, 300, 0);
    x.setWeight(0, 1, 270);
    x.setWeight(2, 100, 280);
    Expect.due("changes that change no rate part nothing", 2, () -> x.segments(0, 0));
    Expect.due("the second goes to the end", (100 * 100 + 265 * 105) / 365 - 100 * 100 / 365,
        () -> x.segmentPremium(0, 1, 0));
    x.change(0, 0, 0, 5);
    Expect.due("from the first day to the last", 1, () -> x.segments(0, 0));
    Expect.due("in one", 105, () -> x.segmentPremium(0, 0, 0));
  }

  private static void segmentsOfOneDay() {
    Backdater x = new Backdater();
    x.open(365);
    x.change(0, 0, 0, 1);
    x.change(0, 0, 1, 0);
    x.change(0, 0, 363, 2);
    x.change(0, 0, 364, 3);
    int[] starts = {0, 1, 363, 364};
    Expect.due("segments", 4, () -> x.segments(0, 0));
    for (int i = 0; i < 4; i++) {
      int segment = i;
      Expect.due("start", starts[segment], () -> x.segmentStart(0, segment, 0));
    }
    Expect.dueIndex("no fifth", () -> x.segmentStart(0, 4, 0));
    Expect.due("the first day", 1, () -> x.segmentPremium(0, 0, 0));
    Expect.due("the last day", 1, () -> x.segmentPremium(0, 3, 0));
    x.cancel(0, 0);
    x.reinstate(0, 364);
    Expect.due("the last day alone is covered", 1, () -> x.segments(0, 0));
    Expect.due("its start", 364, () -> x.segmentStart(0, 0, 0));
    Expect.due("its premium", 1, () -> x.segmentPremium(0, 0, 0));
    x.reinstate(0, 0);
    x.cancel(0, 1);
    Expect.due("and the first one", 2, () -> x.segments(0, 0));
    Expect.due("its start", 0, () -> x.segmentStart(0, 0, 0));
  }

  private static void gapOfOneDay() {
    Backdater x = new Backdater();
    x.open(365);
    x.cancel(0, 100);
    x.reinstate(0, 101);
    Expect.due("the same rate on both sides", 2, () -> x.segments(0, 0));
    Expect.due("start behind the gap", 101, () -> x.segmentStart(0, 1, 0));
    Expect.due("ahead of it", 100, () -> x.segmentPremium(0, 0, 0));
    Expect.due("behind it", 264, () -> x.segmentPremium(0, 1, 0));
    Expect.due("the gap costs nothing", 364, () -> x.premium(0, 0));
    x.cancel(0, 50);
    x.reinstate(0, 50);
    Expect.due("no day between cancelling and reinstating", 2, () -> x.segments(0, 0));
  }

  private static void sameRateByOtherValues() {
    Backdater x = new Backdater();
    x.open(100);
    x.change(0, 0, 0, 10);
    x.change(0, 0, 100, 4);
    x.change(0, 1, 100, 6);
    Expect.due("one field for another", 1, () -> x.segments(0, 0));
    x.setWeight(0, 4, 200);
    x.setWeight(1, 0, 200);
    Expect.due("other weights: 16 for 10", 2, () -> x.segments(0, 0));
    x.change(0, 0, 200, 0);
    x.change(0, 2, 200, 10);
    Expect.due("other weights and values: 10 for 10", 1, () -> x.segments(0, 0));
  }

  private static void chargeIsRoundedDown() {
    int[] days = {364, 363, 1, 2, 183, 182};
    int[] bases = {1, 2, 365, 182, 2, 2};
    int[] premiums = {0, 1, 1, 0, 1, 0};
    for (int i = 0; i < days.length; i++) {
      Backdater x = new Backdater();
      x.open(bases[i]);
      x.cancel(0, days[i]);
      String told = days[i] + " days of " + bases[i];
      int premium = premiums[i];
      Expect.due(told, premium, () -> x.premium(0, 0));
      Expect.due(told + ", the segment", premium, () -> x.segmentPremium(0, 0, 0));
      Expect.due(told + ", by days", premium, () -> x.premiumByDays(0, 0));
    }
  }

  /** Each segment alone would come to 0.5 or less; what is cut off one is found again in a later one. */
  private static void roundingsOfSegments() {
    Backdater x = new Backdater();
    x.open(73);
    for (int day = 1; day <= 10; day++) {
      x.change(0, 0, day, day % 2);
    }
    int[] premiums = {0, 0, 0, 0, 1, 0, 0, 0, 0, 1, 71};
    Expect.due("segments", 11, () -> x.segments(0, 0));
    for (int i = 0; i < 11; i++) {
      int segment = i;
      Expect.due("premium of " + i, premiums[i], () -> x.segmentPremium(0, segment, 0));
    }
    Expect.due("premium", 73, () -> x.premium(0, 0));
  }

  private static void premiumsAgree() {
    Backdater x = Story.FULL.begun();
    for (int i = 0; i < 4; i++) {
      int policy = i;
      for (int known : new int[] {0, 99, 100, 159, 160}) {
        int sum = 0;
        int segments = x.segments(policy, known);
        for (int segment = 0; segment < segments; segment++) {
          sum += x.segmentPremium(policy, segment, known);
        }
        int total = sum;
        Expect.due("the sum of the segments", total, () -> x.premium(policy, known));
        Expect.due("day by day", total, () -> x.premiumByDays(policy, known));
      }
    }
  }

  // ---- bills

  private static void billOfTheSameDay() {
    Backdater x = new Backdater();
    x.open(365);
    Expect.due("the first", 365, () -> x.bill(0));
    Expect.due("again", 0, () -> x.bill(0));
    Expect.due("billed once", 365, () -> x.billed(0));
    x.change(0, 0, 0, 1);
    Expect.due("what is new on the same day", 1, () -> x.bill(0));
    Expect.due("again", 0, () -> x.bill(0));
    x.takeBack(0);
    Expect.due("what goes back on the same day", -1, () -> x.bill(0));
    Expect.due("billed", 365, () -> x.billed(0));
  }

  private static void billGoesBack() {
    Backdater x = new Backdater();
    x.open(365);
    x.open(365);
    x.bill(0);
    x.bill(1);
    x.cancel(0, 364);
    Expect.due("one day goes back", -1, () -> x.bill(0));
    Expect.due("billed", 364, () -> x.billed(0));
    x.cancel(0, 0);
    Expect.due("all goes back", -364, () -> x.bill(0));
    Expect.due("billed", 0, () -> x.billed(0));
    Expect.due("nothing more", 0, () -> x.bill(0));
    x.reinstate(0, 0);
    Expect.due("up to the cancelling that stands", 364, () -> x.bill(0));
    Expect.due("the other policy", 365, () -> x.billed(1));
  }

  private static void billIsAsKnownToday() {
    Backdater x = new Backdater();
    x.open(365);
    x.cancel(0, 200);
    x.pass(5);
    x.takeBack(0);
    x.change(0, 0, 0, 5);
    Expect.due("told today, taken back today", 370, () -> x.bill(0));
    Expect.due("as known yesterday", 200, () -> x.premium(0, 4));
    Expect.due("billed", 370, () -> x.billed(0));
    x.pass(1);
    Expect.due("nothing new the day behind", 0, () -> x.bill(0));
  }

  // ---- laid in anew

  private static void laidAnewIsStrict() {
    Backdater x = new Backdater();
    x.open(1);
    x.open(1);
    x.change(0, 0, 99, 1);
    x.change(0, 1, 100, 1);
    x.add(0, 2, 101, 1);
    x.cancel(1, 101);
    x.cancel(0, 100);
    x.reinstate(0, 364);
    x.add(0, 0, 363, 1);
    int[] counts = {0, 0, 0, 0, 1, 0, 1};
    for (int i = 0; i < 7; i++) {
      int change = i;
      Expect.due("change " + i, counts[i], () -> x.laidAnew(change));
    }
    x.change(0, 0, 0, 1);
    Expect.due("ahead of all of its policy", 6, () -> x.laidAnew(7));
    Expect.due("a higher number does not count", 1, () -> x.laidAnew(4));
  }

  private static void laidAnewAsKnownToday() {
    Backdater x = new Backdater();
    x.open(1);
    x.cancel(0, 300);
    x.cancel(0, 200);
    x.cancel(0, 100);
    Expect.due("told today", 2, () -> x.laidAnew(2));
    x.pass(1);
    Expect.due("told yesterday", 2, () -> x.laidAnew(2));
    x.takeBack(0);
    Expect.due("taken back today", 1, () -> x.laidAnew(2));
    Expect.due("for the one between too", 0, () -> x.laidAnew(1));
    x.pass(1);
    Expect.due("taken back yesterday", 1, () -> x.laidAnew(2));
    x.takeBack(2);
    Expect.due("itself taken back", 1, () -> x.laidAnew(2));
    x.takeBack(1);
    Expect.due("none is left", 0, () -> x.laidAnew(2));
  }
}
