/** Promises 13 to 15: value, isCovered, rate. */
public final class VersionTest {
  public static void main(String[] args) {
    versionsFollowFromTwoKindsOfDays();
    orderIsByDayThenByNumber();
    rateCountsAllFields();
    Expect.end("VersionTest");
  }

  private static void versionsFollowFromTwoKindsOfDays() {
    Backdater x = new Backdater();
    x.open(50);
    x.change(0, 0, 200, 4);
    x.pass(10);
    x.change(0, 0, 100, 9);
    x.pass(10);
    x.add(0, 0, 150, 5);
    x.pass(10);
    x.takeBack(1);
    Expect.due("known on 0", 0, () -> x.value(0, 0, 199, 0));
    Expect.due("known on 9", 0, () -> x.value(0, 0, 199, 9));
    Expect.due("known on 10", 9, () -> x.value(0, 0, 199, 10));
    Expect.due("known on 19", 9, () -> x.value(0, 0, 199, 19));
    Expect.due("known on 20", 14, () -> x.value(0, 0, 199, 20));
    Expect.due("known on 29", 14, () -> x.value(0, 0, 150, 29));
    Expect.due("known on 30", 5, () -> x.value(0, 0, 150, 30));
    Expect.due("ahead of 150", 0, () -> x.value(0, 0, 149, 30));
    Expect.due("from 200 on", 4, () -> x.value(0, 0, 200, 30));
    Expect.due("rate known on 29", 64, () -> x.rate(0, 150, 29));
    Expect.due("rate known on 30", 55, () -> x.rate(0, 150, 30));
    x.cancel(0, 0);
    Expect.due("told today, known today", false, () -> x.isCovered(0, 0, 30));
    Expect.due("not known yesterday", true, () -> x.isCovered(0, 0, 29));
  }

  private static void orderIsByDayThenByNumber() {
    Backdater x = new Backdater();
    x.open(1);
    x.add(0, 0, 20, 3);
    x.change(0, 0, 20, 10);
    x.add(0, 0, 10, 18);
    x.add(0, 0, 20, 15);
    x.add(0, 0, 20, -4);
    x.add(0, 0, 10, 9);
    Expect.due("on 10: 18 and 9, not above 20", 20, () -> x.value(0, 0, 10, 0));
    Expect.due("on 20: 20, 10, 20, 16", 16, () -> x.value(0, 0, 20, 0));
    x.takeBack(1);
    Expect.due("without the setting", 16, () -> x.value(0, 0, 20, 0));
    x.takeBack(3);
    Expect.due("without the adding of 15", 16, () -> x.value(0, 0, 20, 0));
    x.takeBack(2);
    Expect.due("9, 12, 8", 8, () -> x.value(0, 0, 20, 0));
  }

  private static void rateCountsAllFields() {
    Backdater x = new Backdater();
    x.open(100);
    x.change(0, 0, 0, 1);
    x.change(0, 1, 0, 2);
    x.change(0, 2, 0, 3);
    x.setWeight(0, 10, 0);
    x.setWeight(1, 20, 0);
    x.setWeight(2, 30, 0);
    Expect.due("the base and all fields", 240, () -> x.rate(0, 0, 0));
    x.cancel(0, 364);
    Expect.due("without cover", 0, () -> x.rate(0, 364, 0));
    Expect.due("with cover", 240, () -> x.rate(0, 363, 0));
  }
}
