import java.util.ArrayList;
import java.util.Arrays;
import java.util.List;

/** A policy administrator with two kinds of days: from when a change holds, and when it was told. */
public final class Backdater {
  public static final int NONE = -1;

  private static final int POLICY_LIMIT = 4;
  private static final int TARIFF_LIMIT = 20;
  private static final int CHANGE_LIMIT = 60;
  private static final int DAYS = 365;
  private static final int FIELDS = 3;
  private static final int HIGHEST_BASE = 1000;
  private static final int HIGHEST_WEIGHT = 100;
  private static final int HIGHEST_VALUE = 20;
  private static final int LONGEST_PASS = 100;

  private final List<Policy> policies = new ArrayList<>();
  /** All changes, each at its number; those that were taken back stay. */
  private final List<Change> told = new ArrayList<>();
  private final Tariffs tariffs = new Tariffs();
  /** Made once and laid out anew by each call that needs it, so that no call makes rows. */
  private final Version version = new Version();
  /** Made once for the same reason. */
  private final Year year = new Year();
  private int currentDay = 0;

  public Backdater() {
  }

  // ---- policies, tariffs, days

  public int open(int base) throws IllegalArgumentException, IllegalStateException {
    demandWithin(base, 1, HIGHEST_BASE);
    if (policies.size() >= POLICY_LIMIT) {
      throw new IllegalStateException("there are 4 policies");
    }
    policies.add(new Policy(base));
    return policies.size() - 1;
  }

  public int setWeight(int field, int weight, int from)
      throws IndexOutOfBoundsException, IllegalArgumentException, IllegalStateException {
    demandField(field);
    demandWithin(weight, 0, HIGHEST_WEIGHT);
    demandDay(from);
    if (tariffs.count >= TARIFF_LIMIT) {
      throw new IllegalStateException("there are 20 tariffs");
    }
    tariffs.tell(field, weight, from);
    return tariffs.count;
  }

  public int pass(int days) throws IllegalArgumentException {
    demandWithin(days, 1, LONGEST_PASS);
    currentDay += days;
    return currentDay;
  }

  public int today() {
    return currentDay;
  }

  // ---- changes, which are told today

  public int change(int policy, int field, int from, int value)
      throws IndexOutOfBoundsException, IllegalArgumentException, IllegalStateException {
    Policy changed = policyNumbered(policy);
    demandField(field);
    demandDay(from);
    demandWithin(value, 0, HIGHEST_VALUE);
    return tell(changed, Kind.SET, field, from, value);
  }

  public int add(int policy, int field, int from, int number)
      throws IndexOutOfBoundsException, IllegalArgumentException, IllegalStateException {
    Policy changed = policyNumbered(policy);
    demandField(field);
    demandDay(from);
    demandWithin(number, -HIGHEST_VALUE, HIGHEST_VALUE);
    return tell(changed, Kind.ADD, field, from, number);
  }

  public int cancel(int policy, int from)
      throws IndexOutOfBoundsException, IllegalArgumentException, IllegalStateException {
    Policy changed = policyNumbered(policy);
    demandDay(from);
    return tell(changed, Kind.CANCEL, NONE, from, 0);
  }

  public int reinstate(int policy, int from)
      throws IndexOutOfBoundsException, IllegalArgumentException, IllegalStateException {
    Policy changed = policyNumbered(policy);
    demandDay(from);
    return tell(changed, Kind.REINSTATE, NONE, from, 0);
  }

  public int takeBack(int change) throws IndexOutOfBoundsException, IllegalStateException {
    Change taken = changeNumbered(change);
    if (taken.takenBackOn != NONE) {
      throw new IllegalStateException("the change was taken back");
    }
    taken.takenBackOn = currentDay;
    return taken.toldOn;
  }

  public int changes() {
    return told.size();
  }

  public int laidAnew(int change) throws IndexOutOfBoundsException {
    Change late = changeNumbered(change);
    List<Change> inOrder = late.policy.inOrder;
    int count = 0;
    for (int i = 0; i < inOrder.size(); i++) {
      Change other = inOrder.get(i);
      if (other.number < late.number && other.from > late.from && other.isKnownOn(currentDay)) {
        count++;
      }
    }
    return count;
  }

  // ---- versions

  public int value(int policy, int field, int day, int known)
      throws IndexOutOfBoundsException, IllegalArgumentException {
    Policy asked = policyNumbered(policy);
    demandField(field);
    demandDay(day);
    demandKnown(known);
    layVersion(asked, day, known);
    return version.valueOf(field);
  }

  public boolean isCovered(int policy, int day, int known)
      throws IndexOutOfBoundsException, IllegalArgumentException {
    Policy asked = policyNumbered(policy);
    demandDay(day);
    demandKnown(known);
    layVersion(asked, day, known);
    return version.covered;
  }

  public int rate(int policy, int day, int known)
      throws IndexOutOfBoundsException, IllegalArgumentException {
    Policy asked = policyNumbered(policy);
    demandDay(day);
    demandKnown(known);
    layVersion(asked, day, known);
    return rateOfVersion(asked, day);
  }

  // ---- segments, premiums, bills

  public int segments(int policy, int known)
      throws IndexOutOfBoundsException, IllegalArgumentException {
    Policy asked = policyNumbered(policy);
    demandKnown(known);
    layYear(asked, known);
    return year.countSegments();
  }

  public int segmentStart(int policy, int segment, int known)
      throws IllegalArgumentException, IndexOutOfBoundsException {
    demandKnown(known);
    return startOfSegment(policy, segment, known);
  }

  public int segmentPremium(int policy, int segment, int known)
      throws IllegalArgumentException, IndexOutOfBoundsException {
    demandKnown(known);
    return year.premiumOfSegmentFrom(startOfSegment(policy, segment, known));
  }

  public int premium(int policy, int known)
      throws IndexOutOfBoundsException, IllegalArgumentException {
    Policy asked = policyNumbered(policy);
    demandKnown(known);
    return premiumBySegments(asked, known);
  }

  public int premiumByDays(int policy, int known)
      throws IndexOutOfBoundsException, IllegalArgumentException {
    Policy asked = policyNumbered(policy);
    demandKnown(known);
    int sum = 0;
    for (int day = 0; day < DAYS; day++) {
      layVersion(asked, day, known);
      sum += rateOfVersion(asked, day);
    }
    return sum / DAYS;
  }

  public int bill(int policy) throws IndexOutOfBoundsException {
    Policy asked = policyNumbered(policy);
    int amount = premiumBySegments(asked, currentDay) - asked.billedSoFar;
    asked.billedSoFar += amount;
    return amount;
  }

  public int billed(int policy) throws IndexOutOfBoundsException {
    return policyNumbered(policy).billedSoFar;
  }

  // ---- what several calls share

  private static void demandWithin(int number, int lowest, int highest) {
    if (number < lowest || number > highest) {
      throw new IllegalArgumentException("a number is out of range");
    }
  }

  private static void demandDay(int day) {
    demandWithin(day, 0, DAYS - 1);
  }

  private void demandKnown(int known) {
    demandWithin(known, 0, currentDay);
  }

  private static void demandField(int field) {
    if (!isField(field)) {
      throw new IndexOutOfBoundsException("there is no such field");
    }
  }

  private static boolean isField(int field) {
    return field >= 0 && field < FIELDS;
  }

  private static boolean isDay(int day) {
    return day >= 0 && day < DAYS;
  }

  private Policy policyNumbered(int number) {
    if (number < 0 || number >= policies.size()) {
      throw new IndexOutOfBoundsException("there is no such policy");
    }
    return policies.get(number);
  }

  private Change changeNumbered(int number) {
    if (number < 0 || number >= told.size()) {
      throw new IndexOutOfBoundsException("there is no such change");
    }
    return told.get(number);
  }

  private int tell(Policy policy, Kind kind, int field, int from, int amount) {
    if (told.size() >= CHANGE_LIMIT) {
      throw new IllegalStateException("there are 60 changes");
    }
    Change change = new Change(told.size(), policy, kind, field, from, amount, currentDay);
    told.add(change);
    policy.putInOrder(change);
    return change.number;
  }

  /** Lays the version of a day in anew, from nothing. */
  private void layVersion(Policy policy, int day, int known) {
    version.begin();
    layInFrom(policy, 0, day, known);
  }

  /**
   * Lays in those changes at the place next or behind it that hold from the day or earlier.
   * Returns the place of the first one that holds from later.
   */
  private int layInFrom(Policy policy, int next, int day, int known) {
    List<Change> inOrder = policy.inOrder;
    int place = Math.max(next, 0);
    while (place < inOrder.size() && inOrder.get(place).from <= day) {
      Change change = inOrder.get(place);
      if (change.isKnownOn(known)) {
        version.layIn(change);
      }
      place++;
    }
    return place;
  }

  private int rateOfVersion(Policy policy, int day) {
    if (!version.covered) {
      return 0;
    }
    int sum = policy.base;
    for (int field = 0; field < FIELDS; field++) {
      sum += version.valueOf(field) * tariffs.weightOn(field, day);
    }
    return sum;
  }

  /** One walk over the days: each version grows out of the one of the day before. */
  private void layYear(Policy policy, int known) {
    version.begin();
    int next = 0;
    for (int day = 0; day < DAYS; day++) {
      next = layInFrom(policy, next, day, known);
      year.putRate(day, rateOfVersion(policy, day));
    }
  }

  private int startOfSegment(int policy, int segment, int known) {
    layYear(policyNumbered(policy), known);
    int start = year.startOf(segment);
    if (start == NONE) {
      throw new IndexOutOfBoundsException("there is no such segment");
    }
    return start;
  }

  private int premiumBySegments(Policy policy, int known) {
    layYear(policy, known);
    return year.sumOfPremiums();
  }

  private enum Kind { SET, ADD, CANCEL, REINSTATE }

  private static final class Change {
    final int number;
    final Policy policy;
    final Kind kind;
    /** NONE if the change is of the cover. */
    final int field;
    final int from;
    /** What the field is set to, or what is added to it. */
    final int amount;
    final int toldOn;
    int takenBackOn = NONE;

    Change(int number, Policy policy, Kind kind, int field, int from, int amount, int toldOn) {
      this.number = number;
      this.policy = policy;
      this.kind = kind;
      this.field = field;
      this.from = from;
      this.amount = amount;
      this.toldOn = toldOn;
    }

    boolean isKnownOn(int day) {
      return toldOn <= day && (takenBackOn == NONE || takenBackOn > day);
    }
  }

  private static final class Policy {
    final int base;
    /** Its changes in the order in which they are laid in; those that were taken back stay. */
    final List<Change> inOrder = new ArrayList<>();
    int billedSoFar = 0;

    Policy(int base) {
      this.base = base;
    }

    /** The newest change has the highest number: it goes behind all that hold from its day. */
    void putInOrder(Change newest) {
      int place = inOrder.size();
      while (place > 0 && inOrder.get(place - 1).from > newest.from) {
        place--;
      }
      inOrder.add(place, newest);
    }
  }

  /** How a policy stands on one day. */
  private static final class Version {
    private final int[] values = new int[FIELDS];
    boolean covered = true;

    void begin() {
      Arrays.fill(values, 0);
      covered = true;
    }

    void layIn(Change change) {
      if (change.kind == Kind.SET) {
        putValue(change.field, change.amount);
      } else if (change.kind == Kind.ADD) {
        int sum = valueOf(change.field) + change.amount;
        putValue(change.field, Math.min(Math.max(sum, 0), HIGHEST_VALUE));
      } else {
        covered = change.kind == Kind.REINSTATE;
      }
    }

    int valueOf(int field) {
      return isField(field) ? values[field] : 0;
    }

    private void putValue(int field, int number) {
      if (isField(field)) {
        values[field] = number;
      }
    }
  }

  /** The weights of all fields on all days, as the tariffs told so far leave them. */
  private static final class Tariffs {
    private final int[][] weights = new int[FIELDS][DAYS];
    /** From which day the tariff holds that gave the weight of a day; 0 where there is none. */
    private final int[][] since = new int[FIELDS][DAYS];
    int count = 0;

    Tariffs() {
      for (int field = 0; field < FIELDS; field++) {
        Arrays.fill(weights[field], 1);
      }
    }

    /** A tariff gives way only to one from a later day, so one from the same day is told over it. */
    void tell(int field, int weight, int from) {
      if (!isField(field)) {
        return;
      }
      for (int day = 0; day < DAYS; day++) {
        if (from <= day && from >= since[field][day]) {
          weights[field][day] = weight;
          since[field][day] = from;
        }
      }
      count++;
    }

    int weightOn(int field, int day) {
      return isField(field) && isDay(day) ? weights[field][day] : 1;
    }
  }

  /** The rates of a policy on all days, and the segments and charges that follow from them. */
  private static final class Year {
    private final int[] rates = new int[DAYS];
    /** At each day the sum of the rates of all days ahead of it. */
    private final int[] sums = new int[DAYS + 1];

    /** The days are to be put one after the other, since a sum builds on the one before. */
    void putRate(int day, int number) {
      if (isDay(day)) {
        rates[day] = number;
        sums[day + 1] = sums[day] + number;
      }
    }

    /** A policy that is covered has a rate above 0, as its base is: a rate of 0 is no cover. */
    private boolean isStart(int day) {
      return isDay(day) && rates[day] > 0 && (day == 0 || rates[day - 1] != rates[day]);
    }

    int countSegments() {
      int count = 0;
      for (int day = 0; day < DAYS; day++) {
        if (isStart(day)) {
          count++;
        }
      }
      return count;
    }

    /** NONE if there is no such segment. */
    int startOf(int segment) {
      int count = 0;
      for (int day = 0; day < DAYS; day++) {
        if (isStart(day)) {
          if (count == segment) {
            return day;
          }
          count++;
        }
      }
      return NONE;
    }

    private int dayBehindSegmentFrom(int start) {
      if (!isDay(start)) {
        return start;
      }
      for (int day = start + 1; day < DAYS; day++) {
        if (rates[day] != rates[start]) {
          return day;
        }
      }
      return DAYS;
    }

    private int chargeUpTo(int day) {
      return day >= 0 && day <= DAYS ? sums[day] / DAYS : 0;
    }

    int premiumOfSegmentFrom(int start) {
      return chargeUpTo(dayBehindSegmentFrom(start)) - chargeUpTo(start);
    }

    int sumOfPremiums() {
      int sum = 0;
      for (int day = 0; day < DAYS; day++) {
        if (isStart(day)) {
          sum += premiumOfSegmentFrom(day);
        }
      }
      return sum;
    }
  }
}
