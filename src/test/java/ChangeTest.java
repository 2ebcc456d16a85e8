/** Promises 6 to 12: change, add, cancel, reinstate, takeBack, changes, laidAnew. */
public final class ChangeTest {
  private static final int[] NO_DAYS = {-1, 365, Integer.MIN_VALUE, Integer.MAX_VALUE};

  public static void main(String[] args) {
    changeSetsAField();
    addAdds();
    cancelAndReinstate();
    numbersRunOverAllPolicies();
    takeBackTakesBack();
    takeBackRefuses();
    laidAnewCounts();
    laidAnewIsAsKnownToday();
    changeRefuses();
    addRefuses();
    coverRefuses();
    refusalsChangeNothing();
    changeLimit();
    Expect.end("ChangeTest");
  }

  private static void changeSetsAField() {
    Backdater x = new Backdater();
    x.open(100);
    x.open(200);
    Expect.due("change", 0, () -> x.change(0, 1, 30, 20));
    Expect.due("the day ahead", 0, () -> x.value(0, 1, 29, 0));
    Expect.due("its day", 20, () -> x.value(0, 1, 30, 0));
    Expect.due("the last day", 20, () -> x.value(0, 1, 364, 0));
    Expect.due("another field", 0, () -> x.value(0, 0, 30, 0));
    Expect.due("another policy", 0, () -> x.value(1, 1, 30, 0));
    Expect.due("change to 0", 1, () -> x.change(0, 1, 364, 0));
    Expect.due("ahead of the last day", 20, () -> x.value(0, 1, 363, 0));
    Expect.due("on the last day", 0, () -> x.value(0, 1, 364, 0));
    Expect.due("change from the first day", 2, () -> x.change(0, 1, 0, 3));
    Expect.due("on the first day", 3, () -> x.value(0, 1, 0, 0));
    Expect.due("the later day counts", 20, () -> x.value(0, 1, 30, 0));
  }

  private static void addAdds() {
    Backdater x = new Backdater();
    x.open(100);
    Expect.due("add 20", 0, () -> x.add(0, 2, 10, 20));
    Expect.due("add -20", 1, () -> x.add(0, 2, 20, -20));
    Expect.due("add 0", 2, () -> x.add(0, 2, 20, 0));
    Expect.due("ahead", 0, () -> x.value(0, 2, 9, 0));
    Expect.due("added", 20, () -> x.value(0, 2, 19, 0));
    Expect.due("taken off", 0, () -> x.value(0, 2, 20, 0));
    x.add(0, 2, 15, 1);
    Expect.due("not above 20", 20, () -> x.value(0, 2, 15, 0));
    Expect.due("what was cut off is gone", 0, () -> x.value(0, 2, 20, 0));
    x.add(0, 2, 20, -5);
    x.add(0, 2, 20, 7);
    Expect.due("not below 0, then up", 7, () -> x.value(0, 2, 20, 0));
    x.change(0, 2, 20, 4);
    x.add(0, 2, 20, 3);
    Expect.due("set, then added, by their numbers", 7, () -> x.value(0, 2, 20, 0));
    Expect.due("another field", 0, () -> x.value(0, 1, 20, 0));
  }

  private static void cancelAndReinstate() {
    Backdater x = new Backdater();
    x.open(100);
    x.open(100);
    x.change(0, 0, 0, 9);
    Expect.due("cancel", 1, () -> x.cancel(0, 50));
    Expect.due("reinstate", 2, () -> x.reinstate(0, 60));
    Expect.due("covered ahead", true, () -> x.isCovered(0, 49, 0));
    Expect.due("cancelled", false, () -> x.isCovered(0, 50, 0));
    Expect.due("cancelled up to", false, () -> x.isCovered(0, 59, 0));
    Expect.due("reinstated", true, () -> x.isCovered(0, 60, 0));
    Expect.due("the other policy", true, () -> x.isCovered(1, 50, 0));
    Expect.due("the value stays without cover", 9, () -> x.value(0, 0, 55, 0));
    Expect.due("a rate without cover", 0, () -> x.rate(0, 55, 0));
    x.reinstate(0, 364);
    x.cancel(0, 364);
    Expect.due("of the same day by their numbers", false, () -> x.isCovered(0, 364, 0));
    x.cancel(0, 0);
    x.reinstate(0, 0);
    Expect.due("cancelled, then reinstated", true, () -> x.isCovered(0, 0, 0));
    x.cancel(1, 0);
    x.cancel(1, 10);
    x.reinstate(1, 20);
    Expect.due("one reinstating ends two cancellings", true, () -> x.isCovered(1, 20, 0));
    x.change(1, 0, 15, 3);
    Expect.due("a change without cover sets the value", 3, () -> x.value(1, 0, 15, 0));
  }

  private static void numbersRunOverAllPolicies() {
    Backdater x = new Backdater();
    x.open(1);
    x.open(1);
    Expect.due("change", 0, () -> x.change(1, 0, 0, 0));
    Expect.due("add", 1, () -> x.add(0, 0, 0, 0));
    Expect.due("cancel", 2, () -> x.cancel(1, 0));
    Expect.due("reinstate", 3, () -> x.reinstate(0, 0));
    Expect.due("changes", 4, x::changes);
    x.takeBack(0);
    Expect.due("changes with one taken back", 4, x::changes);
    Expect.due("the next number", 4, () -> x.cancel(0, 0));
    Expect.due("changes", 5, x::changes);
  }

  private static void takeBackTakesBack() {
    Backdater x = new Backdater();
    x.open(1);
    x.pass(5);
    x.change(0, 0, 0, 8);
    x.pass(7);
    Expect.due("takeBack answers the day of telling", 5, () -> x.takeBack(0));
    Expect.due("ahead of the telling", 0, () -> x.value(0, 0, 0, 4));
    Expect.due("on the day of telling", 8, () -> x.value(0, 0, 0, 5));
    Expect.due("ahead of taking back", 8, () -> x.value(0, 0, 0, 11));
    Expect.due("on the day of taking back", 0, () -> x.value(0, 0, 0, 12));
    x.change(0, 0, 0, 6);
    Expect.due("told today", 6, () -> x.value(0, 0, 0, 12));
    Expect.due("taken back on its day", 12, () -> x.takeBack(1));
    Expect.due("never known", 0, () -> x.value(0, 0, 0, 12));
    x.pass(1);
    Expect.due("nor later", 0, () -> x.value(0, 0, 0, 13));
    x.cancel(0, 0);
    x.pass(1);
    x.takeBack(2);
    Expect.due("a cancelling taken back", true, () -> x.isCovered(0, 0, 14));
    Expect.due("was known", false, () -> x.isCovered(0, 0, 13));
  }

  private static void takeBackRefuses() {
    Backdater x = new Backdater();
    x.open(1);
    x.change(0, 0, 0, 8);
    x.change(0, 1, 0, 8);
    for (int change : new int[] {-1, 2, Integer.MIN_VALUE, Integer.MAX_VALUE}) {
      Expect.dueIndex("takeBack of no change", () -> x.takeBack(change));
    }
    x.pass(4);
    x.takeBack(0);
    Expect.dueState("takeBack again, the same day", () -> x.takeBack(0));
    x.pass(2);
    Expect.dueState("takeBack again, later", () -> x.takeBack(0));
    Expect.due("it stays taken back on the first day", 0, () -> x.value(0, 0, 0, 4));
    Expect.due("and known ahead of it", 8, () -> x.value(0, 0, 0, 3));
    Expect.due("the other one stays", 8, () -> x.value(0, 1, 0, 6));
  }

  private static void laidAnewCounts() {
    Backdater x = new Backdater();
    x.open(1);
    x.open(1);
    x.change(0, 0, 100, 1);
    x.cancel(0, 101);
    x.change(1, 0, 300, 1);
    x.add(0, 1, 99, 1);
    x.reinstate(0, 100);
    x.change(0, 2, 0, 1);
    Expect.due("the first", 0, () -> x.laidAnew(0));
    Expect.due("told in order", 0, () -> x.laidAnew(1));
    Expect.due("of another policy", 0, () -> x.laidAnew(2));
    Expect.due("ahead of two", 2, () -> x.laidAnew(3));
    Expect.due("the same day is not later", 1, () -> x.laidAnew(4));
    Expect.due("ahead of four", 4, () -> x.laidAnew(5));
    for (int change : new int[] {-1, 6, Integer.MIN_VALUE, Integer.MAX_VALUE}) {
      Expect.dueIndex("laidAnew of no change", () -> x.laidAnew(change));
    }
  }

  private static void laidAnewIsAsKnownToday() {
    Backdater x = new Backdater();
    x.open(1);
    x.change(0, 0, 200, 1);
    x.change(0, 0, 300, 1);
    x.change(0, 0, 100, 1);
    Expect.due("both known", 2, () -> x.laidAnew(2));
    x.takeBack(0);
    Expect.due("one taken back today", 1, () -> x.laidAnew(2));
    x.pass(1);
    x.takeBack(2);
    Expect.due("of a change that was taken back itself", 1, () -> x.laidAnew(2));
    x.takeBack(1);
    Expect.due("none known", 0, () -> x.laidAnew(2));
  }

  private static void changeRefuses() {
    Backdater x = new Backdater();
    x.open(1);
    for (int none : new int[] {-1, 1, 4, Integer.MIN_VALUE, Integer.MAX_VALUE}) {
      Expect.dueIndex("change of no policy", () -> x.change(none, 0, 0, 0));
      Expect.dueIndex("no policy goes first", () -> x.change(none, 0, -1, -1));
    }
    for (int none : new int[] {-1, 3, Integer.MIN_VALUE, Integer.MAX_VALUE}) {
      Expect.dueIndex("change of no field", () -> x.change(0, none, 0, 0));
      Expect.dueIndex("no field goes first", () -> x.change(0, none, 365, 21));
    }
    for (int from : NO_DAYS) {
      Expect.dueArgument("change from " + from, () -> x.change(0, 0, from, 0));
    }
    for (int value : new int[] {-1, 21, Integer.MIN_VALUE, Integer.MAX_VALUE}) {
      Expect.dueArgument("change to " + value, () -> x.change(0, 0, 0, value));
    }
    Expect.due("no change was told", 0, x::changes);
  }

  private static void addRefuses() {
    Backdater x = new Backdater();
    x.open(1);
    for (int none : new int[] {-1, 1, 4, Integer.MIN_VALUE, Integer.MAX_VALUE}) {
      Expect.dueIndex("add of no policy", () -> x.add(none, 0, 0, 0));
      Expect.dueIndex("no policy goes first", () -> x.add(none, 0, -1, 21));
    }
    for (int none : new int[] {-1, 3, Integer.MIN_VALUE, Integer.MAX_VALUE}) {
      Expect.dueIndex("add of no field", () -> x.add(0, none, 0, 0));
      Expect.dueIndex("no field goes first", () -> x.add(0, none, 365, 21));
    }
    for (int from : NO_DAYS) {
      Expect.dueArgument("add from " + from, () -> x.add(0, 0, from, 0));
    }
    for (int number : new int[] {-21, 21, Integer.MIN_VALUE, Integer.MAX_VALUE}) {
      Expect.dueArgument("add " + number, () -> x.add(0, 0, 0, number));
    }
    Expect.due("no change was told", 0, x::changes);
  }

  private static void coverRefuses() {
    Backdater x = new Backdater();
    x.open(1);
    for (int none : new int[] {-1, 1, 4, Integer.MIN_VALUE, Integer.MAX_VALUE}) {
      Expect.dueIndex("cancel of no policy", () -> x.cancel(none, 0));
      Expect.dueIndex("reinstate of no policy", () -> x.reinstate(none, 0));
      Expect.dueIndex("no policy goes first", () -> x.cancel(none, -1));
      Expect.dueIndex("no policy goes first", () -> x.reinstate(none, 365));
    }
    for (int from : NO_DAYS) {
      Expect.dueArgument("cancel from " + from, () -> x.cancel(0, from));
      Expect.dueArgument("reinstate from " + from, () -> x.reinstate(0, from));
    }
    Expect.due("no change was told", 0, x::changes);
    Expect.due("nothing was cancelled", true, () -> x.isCovered(0, 364, 0));
  }

  private static void refusalsChangeNothing() {
    Backdater x = new Backdater();
    x.open(365);
    x.change(0, 0, 10, 5);
    Expect.dueArgument("change", () -> x.change(0, 0, 10, 21));
    Expect.dueArgument("add", () -> x.add(0, 0, 10, -21));
    Expect.dueIndex("cancel", () -> x.cancel(1, 10));
    Expect.dueArgument("cancel", () -> x.cancel(0, 365));
    Expect.dueIndex("takeBack", () -> x.takeBack(1));
    Expect.due("changes", 1, x::changes);
    Expect.due("value", 5, () -> x.value(0, 0, 10, 0));
    Expect.due("segments", 2, () -> x.segments(0, 0));
    Expect.due("the next number", 1, () -> x.reinstate(0, 0));
  }

  private static void changeLimit() {
    Backdater x = new Backdater();
    x.open(1);
    x.open(1);
    for (int i = 0; i < 60; i++) {
      int number = i;
      Expect.due("change", number, () -> x.add(number % 2, 0, 364 - number, 1));
    }
    x.takeBack(59);
    Expect.dueState("a 61st change", () -> x.change(0, 0, 0, 0));
    Expect.dueState("a 61st add", () -> x.add(0, 0, 0, 1));
    Expect.dueState("a 61st cancel", () -> x.cancel(0, 0));
    Expect.dueState("a 61st reinstate", () -> x.reinstate(0, 0));
    Expect.dueArgument("a wrong value goes ahead", () -> x.change(0, 0, 0, 21));
    Expect.dueArgument("a wrong number goes ahead", () -> x.add(0, 0, 365, 1));
    Expect.dueArgument("a wrong day goes ahead", () -> x.cancel(0, -1));
    Expect.dueIndex("no policy goes ahead", () -> x.reinstate(2, 0));
    Expect.due("changes", 60, x::changes);
    Expect.due("they changed nothing", true, () -> x.isCovered(0, 0, 0));
    Expect.due("thirty were laid in, one taken back", 20, () -> x.value(0, 0, 364, 0));
    Expect.due("the last of policy 0", 29, () -> x.laidAnew(58));
    Expect.due("the last of policy 1", 29, () -> x.laidAnew(59));
  }
}
