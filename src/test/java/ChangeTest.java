/** Promises 6 to 12: change, add, cancel, reinstate, takeBack, changes, laidAnew. */
public final class ChangeTest {
  public static void main(String[] args) {
    changeSetsAField();
    addAdds();
    cancelAndReinstate();
    numbersRunOverAllPolicies();
    takeBackTakesBack();
    takeBackRefuses();
    laidAnewCounts();
    laidAnewIsAsKnownToday();
    Expect.end("ChangeTest");
  }

  private static void changeSetsAField() {
    Backdater x = new Backdater();
    x.open(100);
    x.open(200);
    Expect.due("change", 0, () -> x.change(0, 1, 30, 20));
    Expect.due("the day ahead", 0, () -> x.value(0, 1, 29, 0));
    Expect.due("its day", 20, () -> x.value(0, 1, 30, 0));
    Expect.due("the last day", 20, () -> x.value(0, 1, 364, 0));
    Expect.due("another field", 0, () -> x.value(0, 0, 30, 0));
    Expect.due("another policy", 0, () -> x.value(1, 1, 30, 0));
    Expect.due("change to 0", 1, () -> x.change(0, 1, 364, 0));
    Expect.due("ahead of the last day", 20, () -> x.value(0, 1, 363, 0));
    Expect.due("on the last day", 0, () -> x.value(0, 1, 364, 0));
    Expect.due("change from the first day", 2, () -> x.change(0, 1, 0, 3));
    Expect.due("on the first day", 3, () -> x.value(0, 1, 0, 0));
    Expect.due("the later day counts", 20, () -> x.value(0, 1, 30, 0));
  }

  private static void addAdds() {
    Backdater x = new Backdater();
    x.open(100);
    Expect.due("add 20", 0, () -> x.add(0, 2, 10, 20));
    Expect.due("add -20", 1, () -> x.add(0, 2, 20, -20));
    Expect.due("add 0", 2, () -> x.add(0, 2, 20, 0));
    Expect.due("ahead", 0, () -> x.value(0, 2, 9, 0));
    Expect.due("added", 20, () -> x.value(0, 2, 19, 0));
    Expect.due("taken off", 0, () -> x.value(0, 2, 20, 0));
    x.add(0, 2, 15, 1);
    Expect.due("not above 20", 20, () -> x.value(0, 2, 15, 0));
    Expect.due("what was cut off is gone", 0, () -> x.value(0, 2, 20, 0));
    x.add(0, 2, 20, -5);
    x.add(0, 2, 20, 7);
    Expect.due("not below 0, then up", 7, () -> x.value(0, 2, 20, 0));
    x.change(0, 2, 20, 4);
    x.add(0, 2, 20, 3);
    Expect.due("set, then added, by their numbers", 7, () -> x.value(0, 2, 20, 0));
    Expect.due("another field", 0, () -> x.value(0, 1, 20, 0));
  }

  private static void cancelAndReinstate() {
    Backdater x = new Backdater();
    x.open(100);
    x.open(100);
    x.change(0, 0, 0, 9);
    Expect.due("cancel", 1, () -> x.cancel(0, 50));
    Expect.due("reinstate", 2, () -> x.reinstate(0, 60));
    Expect.due("covered ahead", true, () -> x.isCovered(0, 49, 0));
    Expect.due("cancelled", false, () -> x.isCovered(0, 50, 0));
    Expect.due("cancelled up to", false, () -> x.isCovered(0, 59, 0));
    Expect.due("reinstated", true, () -> x.isCovered(0, 60, 0));
    Expect.due("the other policy", true, () -> x.isCovered(1, 50, 0));
    Expect.due("the value stays without cover", 9, () -> x.value(0, 0, 55, 0));
    Expect.due("a rate without cover", 0, () -> x.rate(0, 55, 0));
    x.reinstate(0, 364);
    x.cancel(0, 364);
    Expect.due("of the same day by their numbers", false, () -> x.isCovered(0, 364, 0));
    x.cancel(0, 0);
    x.reinstate(0, 0);
    Expect.due("cancelled, then reinstated", true, () -> x.isCovered(0, 0, 0));
    x.cancel(1, 0);
    x.cancel(1, 10);
    x.reinstate(1, 20);
    Expect.due("one reinstating ends two cancellings", true, () -> x.isCovered(1, 20, 0));
    x.change(1, 0, 15, 3);
    Expect.due("a change without cover sets the value", 3, () -> x.value(1, 0, 15, 0));
  }

  private static void numbersRunOverAllPolicies() {
    Backdater x = new Backdater();
    x.open(1);
    x.open(1);
    Expect.due("change", 0, () -> x.change(1, 0, 0, 0));
    Expect.due("add", 1, () -> x.add(0, 0, 0, 0));
    Expect.due("cancel", 2, () -> x.cancel(1, 0));
    Expect.due("reinstate", 3, () -> x.reinstate(0, 0));
    Expect.due("changes", 4, x::changes);
    x.takeBack(0);
    Expect.due("changes with one taken back", 4, x::changes);
    Expect.due("the next number", 4, () -> x.cancel(0, 0));
    Expect.due("changes", 5, x::changes);
  }

  private static void takeBackTakesBack() {
    Backdater x = new Backdater();
    x.open(1);
    x.pass(5);
    x.change(0, 0, 0, 8);
    x.pass(7);
    Expect.due("takeBack answers the day of telling", 5, () -> x.takeBack(0));
    Expect.due("ahead of the telling", 0, () -> x.value(0, 0, 0, 4));
    Expect.due("on the day of telling", 8, () -> x.value(0, 0, 0, 5));
    Expect.due("ahead of taking back", 8, () -> x.value(0, 0, 0, 11));
    Expect.due("on the day of taking back", 0, () -> x.value(0, 0, 0, 12));
    x.change(0, 0, 0, 6);
    Expect.due("told today", 6, () -> x.value(0, 0, 0, 12));
    Expect.due("taken back on its day", 12, () -> x.takeBack(1));
    Expect.due("never known", 0, () -> x.value(0, 0, 0, 12));
    x.pass(1);
    Expect.due("nor later", 0, () -> x.value(0, 0, 0, 13));
    x.cancel(0, 0);
    x.pass(1);
    x.takeBack(2);
    Expect.due("a cancelling taken back", true, () -> x.isCovered(0, 0, 14));
    Expect.due("was known", false, () -> x.isCovered(0, 0, 13));
  }

  private static void takeBackRefuses() {
    Backdater x = new Backdater();
    x.open(1);
    x.change(0, 0, 0, 8);
    x.change(0, 1, 0, 8);
    for (int change : new int[] {-1, 2, Integer.MIN_VALUE, Integer.MAX_VALUE}) {
      Expect.dueIndex("takeBack of no change", () -> x.takeBack(change));
    }
    x.pass(4);
    x.takeBack(0);
    Expect.dueState("takeBack again, the same day", () -> x.takeBack(0));
    x.pass(2);
    Expect.dueState("takeBack again, later", () -> x.takeBack(0));
    Expect.due("it stays taken back on the first day", 0, () -> x.value(0, 0, 0, 4));
    Expect.due("and known ahead of it", 8, () -> x.value(0, 0, 0, 3));
    Expect.due("the other one stays", 8, () -> x.value(0, 1, 0, 6));
  }

  private static void laidAnewCounts() {
    Backdater x = new Backdater();
    x.open(1);
    x.open(1);
    x.change(0, 0, 100, 1);
    x.cancel(0, 101);
    x.change(1, 0, 300, 1);
    x.add(0, 1, 99, 1);
    x.reinstate(0, 100);
    x.change(0, 2, 0, 1);
    Expect.due("the first", 0, () -> x.laidAnew(0));
    Expect.due("told in order", 0, () -> x.laidAnew(1));
    Expect.due("of another policy", 0, () -> x.laidAnew(2));
    Expect.due("ahead of two", 2, () -> x.laidAnew(3));
    Expect.due("the same day is not later", 1, () -> x.laidAnew(4));
    Expect.due("ahead of four", 4, () -> x.laidAnew(5));
    for (int change : new int[] {-1, 6, Integer.MIN_VALUE, Integer.MAX_VALUE}) {
      Expect.dueIndex("laidAnew of no change", () -> x.laidAnew(change));
    }
  }

  private static void laidAnewIsAsKnownToday() {
    Backdater x = new Backdater();
    x.open(1);
    x.change(0, 0, 200, 1);
    x.change(0, 0, 300, 1);
    x.change(0, 0, 100, 1);
    Expect.due("both known", 2, () -> x.laidAnew(2));
    x.takeBack(0);
    Expect.due("one taken back today", 1, () -> x.laidAnew(2));
    x.pass(1);
    x.takeBack(2);
    Expect.due("of a change that was taken back itself", 1, () -> x.laidAnew(2));
    x.takeBack(1);
    Expect.due("none known", 0, () -> x.laidAnew(2));
  }
}
