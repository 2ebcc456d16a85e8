/** Promises 16 to 22: segments, segmentStart, segmentPremium, premium, premiumByDays, bill, billed. */
public final class SegmentBillTest {
  public static void main(String[] args) {
    oneSegment();
    segmentsFollowTheRate();
    segmentsAcrossNoCover();
    tariffsPartSegments();
    roundingsAddUp();
    premiumsAsKnown();
    billsFollowThePremium();
    Expect.end("SegmentBillTest");
  }

  private static void oneSegment() {
    Backdater x = new Backdater();
    x.open(1);
    Expect.due("segments", 1, () -> x.segments(0, 0));
    Expect.due("start", 0, () -> x.segmentStart(0, 0, 0));
    Expect.due("its premium", 1, () -> x.segmentPremium(0, 0, 0));
    Expect.due("premium", 1, () -> x.premium(0, 0));
    Expect.due("by days", 1, () -> x.premiumByDays(0, 0));
    Expect.dueIndex("no second segment", () -> x.segmentStart(0, 1, 0));
    Expect.dueIndex("no premium of it", () -> x.segmentPremium(0, 1, 0));
  }

  private static void segmentsFollowTheRate() {
    Backdater x = new Backdater();
    x.open(365);
    x.change(0, 0, 100, 5);
    x.change(0, 1, 200, 5);
    x.change(0, 0, 200, 0);
    Expect.due("the same rate goes on", 2, () -> x.segments(0, 0));
    x.change(0, 2, 364, 1);
    Expect.due("the last day alone", 3, () -> x.segments(0, 0));
    Expect.due("its start", 364, () -> x.segmentStart(0, 2, 0));
    x.change(0, 2, 1, 20);
    x.change(0, 2, 2, 0);
    Expect.due("a single day", 5, () -> x.segments(0, 0));
    Expect.due("starts", 1, () -> x.segmentStart(0, 1, 0));
    Expect.due("starts", 2, () -> x.segmentStart(0, 2, 0));
    Expect.due("starts", 100, () -> x.segmentStart(0, 3, 0));
    x.change(0, 1, 50, 0);
    Expect.due("a change that changes nothing", 5, () -> x.segments(0, 0));
  }

  private static void segmentsAcrossNoCover() {
    Backdater x = new Backdater();
    x.open(73);
    x.cancel(0, 100);
    x.reinstate(0, 200);
    Expect.due("the same rate with a gap is two", 2, () -> x.segments(0, 0));
    Expect.due("the second start", 200, () -> x.segmentStart(0, 1, 0));
    Expect.due("the first premium", 20, () -> x.segmentPremium(0, 0, 0));
    Expect.due("the second premium", 33, () -> x.segmentPremium(0, 1, 0));
    Expect.due("premium", 53, () -> x.premium(0, 0));
    x.cancel(0, 0);
    x.reinstate(0, 99);
    Expect.due("the first start behind a gap", 99, () -> x.segmentStart(0, 0, 0));
    Expect.due("a single covered day", 0, () -> x.segmentPremium(0, 0, 0));
    x.change(0, 0, 150, 20);
    Expect.due("no segment without cover", 2, () -> x.segments(0, 0));
    x.cancel(0, 364);
    Expect.due("the last day without cover", 2, () -> x.segments(0, 0));
    Expect.due("ends ahead of it", 41, () -> x.segmentPremium(0, 1, 0));
  }

  private static void tariffsPartSegments() {
    Backdater x = new Backdater();
    x.open(10);
    x.change(0, 0, 0, 5);
    x.setWeight(0, 2, 73);
    x.setWeight(1, 50, 146);
    Expect.due("segments", 2, () -> x.segments(0, 0));
    Expect.due("start", 73, () -> x.segmentStart(0, 1, 0));
    Expect.due("premium", 3, () -> x.segmentPremium(0, 0, 0));
    Expect.due("premium", 16, () -> x.segmentPremium(0, 1, 0));
  }

  private static void roundingsAddUp() {
    Backdater x = new Backdater();
    x.open(1);
    for (int day = 1; day < 50; day++) {
      x.change(0, 0, day, day % 2);
    }
    Expect.due("segments", 50, () -> x.segments(0, 0));
    Expect.due("the charge of a part of a day's rate", 0, () -> x.segmentPremium(0, 48, 0));
    Expect.due("the last", 1, () -> x.segmentPremium(0, 49, 0));
    x.setWeight(0, 100, 0);
    int sum = 0;
    for (int segment = 0; segment < 50; segment++) {
      sum += x.segmentPremium(0, segment, 0);
    }
    int total = sum;
    Expect.due("the sum is rounded once", (365 + 25 * 100 + 315 * 100) / 365, () -> total);
    Expect.due("premium", total, () -> x.premium(0, 0));
    Expect.due("by days", total, () -> x.premiumByDays(0, 0));
  }

  private static void premiumsAsKnown() {
    Backdater x = new Backdater();
    x.open(365);
    x.pass(10);
    x.change(0, 0, 265, 20);
    x.pass(10);
    x.cancel(0, 165);
    x.pass(10);
    x.takeBack(1);
    Expect.due("known on 9", 365, () -> x.premium(0, 9));
    Expect.due("known on 10", 370, () -> x.premium(0, 10));
    Expect.due("known on 20", 165, () -> x.premium(0, 20));
    Expect.due("known on 29", 165, () -> x.premiumByDays(0, 29));
    Expect.due("known on 30", 370, () -> x.premiumByDays(0, 30));
    Expect.due("segments known on 9", 1, () -> x.segments(0, 9));
    Expect.due("segments known on 10", 2, () -> x.segments(0, 10));
    Expect.due("segments known on 20", 1, () -> x.segments(0, 20));
    Expect.due("start known on 30", 265, () -> x.segmentStart(0, 1, 30));
    Expect.due("premium known on 30", 105, () -> x.segmentPremium(0, 1, 30));
    Expect.dueIndex("no such segment known on 29", () -> x.segmentStart(0, 1, 29));
  }

  private static void billsFollowThePremium() {
    Backdater x = new Backdater();
    x.open(365);
    x.open(100);
    Expect.due("nothing billed", 0, () -> x.billed(0));
    Expect.due("the first bill", 365, () -> x.bill(0));
    Expect.due("billed", 365, () -> x.billed(0));
    Expect.due("nothing new", 0, () -> x.bill(0));
    Expect.due("the other policy", 0, () -> x.billed(1));
    x.pass(50);
    x.cancel(0, 65);
    Expect.due("billed goes on", 365, () -> x.billed(0));
    Expect.due("it goes back", -300, () -> x.bill(0));
    Expect.due("billed", 65, () -> x.billed(0));
    x.pass(1);
    x.takeBack(0);
    x.change(0, 0, 0, 20);
    Expect.due("as known today", 320, () -> x.bill(0));
    Expect.due("billed", 385, () -> x.billed(0));
    x.setWeight(0, 0, 0);
    Expect.due("a tariff goes back too", -20, () -> x.bill(0));
    Expect.due("the other policy's bill", 100, () -> x.bill(1));
    Expect.due("billed", 365, () -> x.billed(0));
    x.cancel(0, 0);
    Expect.due("all goes back", -365, () -> x.bill(0));
    Expect.due("billed", 0, () -> x.billed(0));
  }
}
