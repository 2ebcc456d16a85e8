/** Promises 1 to 5: a new object, open, setWeight, pass, today. */
public final class PolicyTariffDayTest {
  public static void main(String[] args) {
    openNumbers();
    weightsHoldFromTheirDays();
    weightsOfTheSameDayAndField();
    weightsAreAsIfAlwaysKnown();
    passLetsDaysPass();
    objectsAreApart();
    Expect.end("PolicyTariffDayTest");
  }

  private static void openNumbers() {
    Backdater x = new Backdater();
    int[] bases = {1, 1000, 365, 2};
    for (int i = 0; i < 4; i++) {
      int number = i;
      Expect.due("open", number, () -> x.open(bases[number]));
    }
    for (int i = 0; i < 4; i++) {
      int number = i;
      Expect.due("rate of base", bases[number], () -> x.rate(number, 364, 0));
      Expect.due("covered at first", true, () -> x.isCovered(number, 0, 0));
      Expect.due("billed at first", 0, () -> x.billed(number));
      for (int field = 0; field < 3; field++) {
        int asked = field;
        Expect.due("value at first", 0, () -> x.value(number, asked, 0, 0));
      }
    }
  }

  private static void weightsHoldFromTheirDays() {
    Backdater x = new Backdater();
    x.open(10);
    x.change(0, 0, 0, 2);
    x.change(0, 2, 0, 3);
    Expect.due("weights are 1 at first", 15, () -> x.rate(0, 100, 0));
    Expect.due("setWeight", 1, () -> x.setWeight(0, 100, 364));
    Expect.due("rate ahead of a tariff", 15, () -> x.rate(0, 363, 0));
    Expect.due("rate from a tariff on", 213, () -> x.rate(0, 364, 0));
    Expect.due("setWeight of another field", 2, () -> x.setWeight(2, 0, 0));
    Expect.due("a weight of 0", 12, () -> x.rate(0, 0, 0));
    Expect.due("both tariffs", 210, () -> x.rate(0, 364, 0));
    Expect.due("an earlier tariff told later", 3, () -> x.setWeight(0, 5, 50));
    Expect.due("ahead of it", 12, () -> x.rate(0, 49, 0));
    Expect.due("from it on", 20, () -> x.rate(0, 50, 0));
    Expect.due("up to the later one", 20, () -> x.rate(0, 363, 0));
    Expect.due("the latest day counts, not the telling", 210, () -> x.rate(0, 364, 0));
  }

  private static void weightsOfTheSameDayAndField() {
    Backdater x = new Backdater();
    x.open(1);
    x.change(0, 1, 0, 1);
    x.setWeight(1, 9, 10);
    x.setWeight(1, 4, 10);
    Expect.due("the one told last", 5, () -> x.rate(0, 10, 0));
    Expect.due("ahead of both", 2, () -> x.rate(0, 9, 0));
    x.setWeight(1, 7, 0);
    Expect.due("from the day 0, over the first weight", 8, () -> x.rate(0, 0, 0));
    Expect.due("up to the next", 8, () -> x.rate(0, 9, 0));
    Expect.due("not behind the next", 5, () -> x.rate(0, 10, 0));
    x.setWeight(0, 99, 0);
    Expect.due("a tariff of another field", 5, () -> x.rate(0, 10, 0));
  }

  private static void weightsAreAsIfAlwaysKnown() {
    Backdater x = new Backdater();
    x.open(365);
    x.change(0, 0, 0, 1);
    x.pass(100);
    x.setWeight(0, 74, 0);
    Expect.due("a tariff told later is known earlier", 439, () -> x.rate(0, 0, 0));
    Expect.due("and in the premium", 439, () -> x.premium(0, 0));
  }

  private static void passLetsDaysPass() {
    Backdater x = new Backdater();
    Expect.due("pass 1", 1, () -> x.pass(1));
    Expect.due("pass 100", 101, () -> x.pass(100));
    Expect.due("today", 101, x::today);
    Expect.due("today passes nothing", 101, x::today);
    for (int i = 0; i < 10; i++) {
      x.pass(100);
    }
    Expect.due("today goes on behind the day 364", 1101, x::today);
  }

  private static void objectsAreApart() {
    Backdater x = new Backdater();
    Backdater y = new Backdater();
    x.open(5);
    x.pass(9);
    x.setWeight(0, 50, 0);
    x.change(0, 0, 0, 1);
    Expect.due("today of another object", 0, y::today);
    Expect.due("changes of another object", 0, y::changes);
    Expect.dueIndex("policies of another object", () -> y.billed(0));
    y.open(5);
    y.change(0, 0, 0, 1);
    Expect.due("weights of another object", 6, () -> y.rate(0, 0, 0));
  }
}
