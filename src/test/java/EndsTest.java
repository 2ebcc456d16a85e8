/** Both ends of every range that a promise names, and what the call answers and does there. */
public final class EndsTest {
  private static final int[] ENDS_OF_THE_YEAR = {0, 364};

  public static void main(String[] args) {
    openBase();
    setWeightField();
    setWeightWeight();
    setWeightFrom();
    passDays();
    changeFrom();
    changeValue();
    addFrom();
    addNumber();
    cancelFrom();
    reinstateFrom();
    policyAndField();
    changeNumber();
    versionDay();
    versionKnown();
    segmentNumber();
    segmentKnown();
    Expect.end("EndsTest");
  }

  private static void openBase() {
    Backdater x = new Backdater();
    Expect.dueArgument("base 0", () -> x.open(0));
    Expect.due("base 1", 0, () -> x.open(1));
    Expect.due("its rate", 1, () -> x.rate(0, 0, 0));
    Expect.due("base 1000", 1, () -> x.open(1000));
    Expect.due("its rate", 1000, () -> x.rate(1, 0, 0));
    Expect.dueArgument("base 1001", () -> x.open(1001));
    Expect.dueArgument("base -1", () -> x.open(-1));
    Expect.dueIndex("no third policy by that", () -> x.billed(2));
  }

  private static void setWeightField() {
    Backdater x = new Backdater();
    x.open(100);
    x.change(0, 0, 0, 1);
    x.change(0, 2, 0, 1);
    Expect.dueIndex("field -1", () -> x.setWeight(-1, 5, 0));
    Expect.due("field 0", 1, () -> x.setWeight(0, 5, 0));
    Expect.due("it weighs", 106, () -> x.rate(0, 0, 0));
    Expect.due("field 2", 2, () -> x.setWeight(2, 7, 0));
    Expect.due("it weighs", 112, () -> x.rate(0, 0, 0));
    Expect.dueIndex("field 3", () -> x.setWeight(3, 5, 0));
  }

  private static void setWeightWeight() {
    Backdater x = new Backdater();
    x.open(100);
    x.change(0, 1, 0, 20);
    Expect.dueArgument("weight -1", () -> x.setWeight(1, -1, 0));
    Expect.due("weight 0", 1, () -> x.setWeight(1, 0, 0));
    Expect.due("the field weighs nothing", 100, () -> x.rate(0, 0, 0));
    Expect.due("weight 100", 2, () -> x.setWeight(1, 100, 0));
    Expect.due("the field weighs most", 2100, () -> x.rate(0, 0, 0));
    Expect.dueArgument("weight 101", () -> x.setWeight(1, 101, 0));
    Expect.due("the weight stays", 2100, () -> x.rate(0, 0, 0));
  }

  private static void setWeightFrom() {
    Backdater x = new Backdater();
    x.open(100);
    x.change(0, 1, 0, 1);
    Expect.dueArgument("from -1", () -> x.setWeight(1, 9, -1));
    Expect.due("from 364", 1, () -> x.setWeight(1, 50, 364));
    Expect.due("the day ahead", 101, () -> x.rate(0, 363, 0));
    Expect.due("the last day", 150, () -> x.rate(0, 364, 0));
    Expect.due("from 0", 2, () -> x.setWeight(1, 20, 0));
    Expect.due("the first day", 120, () -> x.rate(0, 0, 0));
    Expect.due("up to the next tariff", 120, () -> x.rate(0, 363, 0));
    Expect.due("which holds from a later day", 150, () -> x.rate(0, 364, 0));
    Expect.dueArgument("from 365", () -> x.setWeight(1, 9, 365));
  }

  private static void passDays() {
    Backdater x = new Backdater();
    Expect.dueArgument("pass 0", () -> x.pass(0));
    Expect.due("no day passed", 0, x::today);
    Expect.due("pass 1", 1, () -> x.pass(1));
    Expect.due("today", 1, x::today);
    Expect.due("pass 100", 101, () -> x.pass(100));
    Expect.due("today", 101, x::today);
    Expect.dueArgument("pass 101", () -> x.pass(101));
    Expect.dueArgument("pass -1", () -> x.pass(-1));
    Expect.due("no day passed", 101, x::today);
  }

  private static void changeFrom() {
    Backdater x = new Backdater();
    x.open(1);
    Expect.dueArgument("from -1", () -> x.change(0, 0, -1, 5));
    Expect.due("from 364", 0, () -> x.change(0, 0, 364, 5));
    Expect.due("the day ahead", 0, () -> x.value(0, 0, 363, 0));
    Expect.due("the last day", 5, () -> x.value(0, 0, 364, 0));
    Expect.due("from 0", 1, () -> x.change(0, 0, 0, 6));
    Expect.due("the first day", 6, () -> x.value(0, 0, 0, 0));
    Expect.due("up to the next change", 6, () -> x.value(0, 0, 363, 0));
    Expect.due("which holds from a later day", 5, () -> x.value(0, 0, 364, 0));
    Expect.dueArgument("from 365", () -> x.change(0, 0, 365, 5));
    Expect.due("two were told", 2, x::changes);
  }

  private static void changeValue() {
    Backdater x = new Backdater();
    x.open(1);
    Expect.dueArgument("value -1", () -> x.change(0, 0, 0, -1));
    Expect.due("value 20", 0, () -> x.change(0, 0, 0, 20));
    Expect.due("it is 20", 20, () -> x.value(0, 0, 0, 0));
    Expect.due("value 0", 1, () -> x.change(0, 0, 0, 0));
    Expect.due("it is 0", 0, () -> x.value(0, 0, 0, 0));
    Expect.dueArgument("value 21", () -> x.change(0, 0, 0, 21));
    Expect.due("it stays", 0, () -> x.value(0, 0, 0, 0));
    Expect.due("two were told", 2, x::changes);
  }

  private static void addFrom() {
    Backdater x = new Backdater();
    x.open(1);
    Expect.dueArgument("from -1", () -> x.add(0, 0, -1, 5));
    Expect.due("from 364", 0, () -> x.add(0, 0, 364, 5));
    Expect.due("the day ahead", 0, () -> x.value(0, 0, 363, 0));
    Expect.due("the last day", 5, () -> x.value(0, 0, 364, 0));
    Expect.due("from 0", 1, () -> x.add(0, 0, 0, 6));
    Expect.due("the first day", 6, () -> x.value(0, 0, 0, 0));
    Expect.due("both on the last day", 11, () -> x.value(0, 0, 364, 0));
    Expect.dueArgument("from 365", () -> x.add(0, 0, 365, 5));
    Expect.due("two were told", 2, x::changes);
  }

  private static void addNumber() {
    Backdater x = new Backdater();
    x.open(1);
    Expect.dueArgument("number -21", () -> x.add(0, 0, 0, -21));
    Expect.due("number 20", 0, () -> x.add(0, 0, 0, 20));
    Expect.due("it is 20", 20, () -> x.value(0, 0, 0, 0));
    Expect.due("number -20", 1, () -> x.add(0, 0, 0, -20));
    Expect.due("it is 0", 0, () -> x.value(0, 0, 0, 0));
    Expect.due("number 0", 2, () -> x.add(0, 0, 0, 0));
    Expect.due("it stays", 0, () -> x.value(0, 0, 0, 0));
    Expect.dueArgument("number 21", () -> x.add(0, 0, 0, 21));
    Expect.due("three were told", 3, x::changes);
  }

  private static void cancelFrom() {
    Backdater x = new Backdater();
    x.open(1);
    Expect.dueArgument("from -1", () -> x.cancel(0, -1));
    Expect.due("from 364", 0, () -> x.cancel(0, 364));
    Expect.due("the day ahead", true, () -> x.isCovered(0, 363, 0));
    Expect.due("the last day", false, () -> x.isCovered(0, 364, 0));
    Expect.due("from 0", 1, () -> x.cancel(0, 0));
    Expect.due("the first day", false, () -> x.isCovered(0, 0, 0));
    Expect.dueArgument("from 365", () -> x.cancel(0, 365));
    Expect.due("two were told", 2, x::changes);
  }

  private static void reinstateFrom() {
    Backdater x = new Backdater();
    x.open(1);
    x.cancel(0, 0);
    Expect.dueArgument("from -1", () -> x.reinstate(0, -1));
    Expect.due("from 364", 1, () -> x.reinstate(0, 364));
    Expect.due("the day ahead", false, () -> x.isCovered(0, 363, 0));
    Expect.due("the last day", true, () -> x.isCovered(0, 364, 0));
    Expect.due("from 0", 2, () -> x.reinstate(0, 0));
    Expect.due("the first day", true, () -> x.isCovered(0, 0, 0));
    Expect.dueArgument("from 365", () -> x.reinstate(0, 365));
    Expect.due("three were told", 3, x::changes);
  }

  /** A policy that was not opened is as little there as one beyond the limit. */
  private static void policyAndField() {
    Backdater x = new Backdater();
    x.open(10);
    x.open(20);
    for (int policy : new int[] {-1, 2, 3, 4}) {
      Expect.dueIndex("change of the policy " + policy, () -> x.change(policy, 0, 0, 1));
      Expect.dueIndex("add of the policy " + policy, () -> x.add(policy, 0, 0, 1));
      Expect.dueIndex("value of the policy " + policy, () -> x.value(policy, 0, 0, 0));
      Expect.dueIndex("bill of the policy " + policy, () -> x.bill(policy));
    }
    for (int field : new int[] {-1, 3}) {
      Expect.dueIndex("change of the field " + field, () -> x.change(1, field, 0, 1));
      Expect.dueIndex("add of the field " + field, () -> x.add(1, field, 0, 1));
      Expect.dueIndex("value of the field " + field, () -> x.value(1, field, 0, 0));
    }
    Expect.due("change of the first policy and field", 0, () -> x.change(0, 0, 0, 3));
    Expect.due("add to the last policy and field", 1, () -> x.add(1, 2, 0, 4));
    Expect.due("the first", 3, () -> x.value(0, 0, 0, 0));
    Expect.due("the last", 4, () -> x.value(1, 2, 0, 0));
    Expect.due("bill of the first", 13, () -> x.bill(0));
    Expect.due("bill of the last", 24, () -> x.bill(1));
  }

  private static void changeNumber() {
    Backdater x = new Backdater();
    x.open(1);
    x.cancel(0, 10);
    x.pass(3);
    x.cancel(0, 5);
    x.cancel(0, 0);
    Expect.dueIndex("takeBack -1", () -> x.takeBack(-1));
    Expect.dueIndex("takeBack 3", () -> x.takeBack(3));
    Expect.dueIndex("laidAnew -1", () -> x.laidAnew(-1));
    Expect.dueIndex("laidAnew 3", () -> x.laidAnew(3));
    Expect.due("laidAnew 0", 0, () -> x.laidAnew(0));
    Expect.due("laidAnew 2", 2, () -> x.laidAnew(2));
    Expect.due("takeBack 0", 0, () -> x.takeBack(0));
    Expect.due("takeBack 2", 3, () -> x.takeBack(2));
    Expect.due("the one between stays", false, () -> x.isCovered(0, 5, 3));
    Expect.due("covered ahead of it", true, () -> x.isCovered(0, 4, 3));
  }

  private static void versionDay() {
    Backdater x = new Backdater();
    x.open(100);
    x.change(0, 0, 0, 3);
    for (int day : ENDS_OF_THE_YEAR) {
      Expect.due("value on " + day, 3, () -> x.value(0, 0, day, 0));
      Expect.due("isCovered on " + day, true, () -> x.isCovered(0, day, 0));
      Expect.due("rate on " + day, 103, () -> x.rate(0, day, 0));
    }
    for (int day : new int[] {-1, 365}) {
      Expect.dueArgument("value on " + day, () -> x.value(0, 0, day, 0));
      Expect.dueArgument("isCovered on " + day, () -> x.isCovered(0, day, 0));
      Expect.dueArgument("rate on " + day, () -> x.rate(0, day, 0));
    }
  }

  private static void versionKnown() {
    Backdater x = new Backdater();
    x.open(100);
    x.change(0, 0, 0, 3);
    x.pass(5);
    x.change(0, 0, 0, 4);
    x.cancel(0, 1);
    Expect.due("value known on 0", 3, () -> x.value(0, 0, 0, 0));
    Expect.due("value known today", 4, () -> x.value(0, 0, 0, 5));
    Expect.due("isCovered known on 0", true, () -> x.isCovered(0, 1, 0));
    Expect.due("isCovered known today", false, () -> x.isCovered(0, 1, 5));
    Expect.due("rate known on 0", 103, () -> x.rate(0, 1, 0));
    Expect.due("rate known today", 0, () -> x.rate(0, 1, 5));
    for (int known : new int[] {-1, 6}) {
      Expect.dueArgument("value known on " + known, () -> x.value(0, 0, 0, known));
      Expect.dueArgument("isCovered known on " + known, () -> x.isCovered(0, 0, known));
      Expect.dueArgument("rate known on " + known, () -> x.rate(0, 0, known));
    }
  }

  private static void segmentNumber() {
    Backdater x = new Backdater();
    x.open(365);
    x.cancel(0, 100);
    x.reinstate(0, 200);
    x.change(0, 0, 364, 1);
    Expect.due("segments", 3, () -> x.segments(0, 0));
    Expect.due("start of 0", 0, () -> x.segmentStart(0, 0, 0));
    Expect.due("start of 2", 364, () -> x.segmentStart(0, 2, 0));
    Expect.due("premium of 0", 100, () -> x.segmentPremium(0, 0, 0));
    Expect.due("premium of 2", 1, () -> x.segmentPremium(0, 2, 0));
    for (int segment : new int[] {-1, 3}) {
      Expect.dueIndex("start of " + segment, () -> x.segmentStart(0, segment, 0));
      Expect.dueIndex("premium of " + segment, () -> x.segmentPremium(0, segment, 0));
    }
  }

  private static void segmentKnown() {
    Backdater x = new Backdater();
    x.open(365);
    x.pass(8);
    x.cancel(0, 0);
    x.reinstate(0, 65);
    x.change(0, 0, 265, 10);
    Expect.due("segments known on 0", 1, () -> x.segments(0, 0));
    Expect.due("segments known today", 2, () -> x.segments(0, 8));
    Expect.due("start known on 0", 0, () -> x.segmentStart(0, 0, 0));
    Expect.due("start known today", 65, () -> x.segmentStart(0, 0, 8));
    Expect.dueIndex("no second one known on 0", () -> x.segmentStart(0, 1, 0));
    Expect.due("premium of it known on 0", 365, () -> x.segmentPremium(0, 0, 0));
    Expect.due("premium of it known today", 200, () -> x.segmentPremium(0, 0, 8));
    Expect.due("premium known on 0", 365, () -> x.premium(0, 0));
    Expect.due("premium known today", 302, () -> x.premium(0, 8));
    Expect.due("by days known on 0", 365, () -> x.premiumByDays(0, 0));
    Expect.due("by days known today", 302, () -> x.premiumByDays(0, 8));
    for (int known : new int[] {-1, 9}) {
      Expect.dueArgument("segments known on " + known, () -> x.segments(0, known));
      Expect.dueArgument("segmentStart known on " + known, () -> x.segmentStart(0, 0, known));
      Expect.dueArgument("segmentPremium known on " + known, () -> x.segmentPremium(0, 0, known));
      Expect.dueArgument("premium known on " + known, () -> x.premium(0, known));
      Expect.dueArgument("premiumByDays known on " + known, () -> x.premiumByDays(0, known));
    }
  }
}
