import java.util.ArrayList;
import java.util.Comparator;
import java.util.List;

/**
 * All promises at once: long runs of calls on the program and on a model of the document's words,
 * which must answer alike. The runs are the same each time: the numbers come from a fixed seed.
 */
public final class ModelTest {
  private static final int RUNS = 120;
  private static final int CALLS = 512;
  private static final int[] EXTREMES = {Integer.MIN_VALUE, -1, 0, Integer.MAX_VALUE};

  private long seed;

  private ModelTest(long seed) {
    this.seed = seed;
  }

  public static void main(String[] args) {
    for (int run = 0; run < RUNS; run++) {
      new ModelTest(run * 7919L + 17).compare(run);
    }
    Expect.end("ModelTest");
  }

  private int below(int bound) {
    seed = seed * 6364136223846793005L + 1442695040888963407L;
    return (int) ((seed >>> 33) % bound);
  }

  /** Mostly from the range, sometimes just outside it, rarely an extreme number. */
  private int near(int lowest, int highest) {
    int kind = below(60);
    if (kind == 0) {
      return EXTREMES[below(EXTREMES.length)];
    }
    if (kind == 1) {
      return lowest - 1;
    }
    if (kind == 2) {
      return highest + 1;
    }
    if (kind < 8) {
      return kind % 2 == 0 ? lowest : highest;
    }
    return lowest + below(highest - lowest + 1);
  }

  /** Few days in some runs, so that many changes hold from the same one. */
  private int nearDay(int run) {
    return run % 3 == 0 ? near(0, 364) : near(0, 364) % (run % 3 == 1 ? 8 : 60);
  }

  private void compare(int run) {
    Backdater x = new Backdater();
    Model m = new Model();
    List<String> told = new ArrayList<>();
    for (int call = 0; call < CALLS; call++) {
      int policy = near(0, Math.max(m.bases.size() - 1, 0));
      int field = near(0, 2);
      int day = nearDay(run);
      int known = near(0, m.today);
      int number = near(0, Math.max(m.changes.size() - 1, 0));
      int kind = run % 4 == 0 ? below(22) : call < 120 ? below(14) : 8 + below(14);
      ask(x, m, run, kind, policy, field, day, known, number, told);
    }
  }

  private void ask(Backdater x, Model m, int run, int kind, int policy, int field, int day, int known,
      int number, List<String> told) {
    int base = near(1, 1000);
    int weight = near(0, 100);
    int days = run % 2 == 0 ? near(1, 3) : near(1, 100);
    int value = near(0, 20);
    int sum = near(-20, 20);
    int segment = near(0, Math.min(m.segmentGuess(policy), 90));
    switch (kind) {
      case 0 -> check(told, run, "open(" + base + ")", () -> x.open(base), () -> m.open(base));
      case 1 -> check(told, run, "setWeight(" + field + ", " + weight + ", " + day + ")",
          () -> x.setWeight(field, weight, day), () -> m.setWeight(field, weight, day));
      case 2, 3 -> check(told, run, "change(" + policy + ", " + field + ", " + day + ", " + value + ")",
          () -> x.change(policy, field, day, value), () -> m.change(policy, field, day, value));
      case 4, 5 -> check(told, run, "add(" + policy + ", " + field + ", " + day + ", " + sum + ")",
          () -> x.add(policy, field, day, sum), () -> m.add(policy, field, day, sum));
      case 6 -> check(told, run, "cancel(" + policy + ", " + day + ")",
          () -> x.cancel(policy, day), () -> m.cover(policy, day, "cancel"));
      case 7 -> check(told, run, "reinstate(" + policy + ", " + day + ")",
          () -> x.reinstate(policy, day), () -> m.cover(policy, day, "reinstate"));
      case 8 -> check(told, run, "pass(" + days + ")", () -> x.pass(days), () -> m.pass(days));
      case 9 -> check(told, run, "takeBack(" + number + ")",
          () -> x.takeBack(number), () -> m.takeBack(number));
      case 10 -> check(told, run, "laidAnew(" + number + ")",
          () -> x.laidAnew(number), () -> m.laidAnew(number));
      case 11 -> check(told, run, "changes()", x::changes, () -> m.changes.size());
      case 12 -> check(told, run, "today()", x::today, () -> m.today);
      case 13 -> check(told, run, "value(" + policy + ", " + field + ", " + day + ", " + known + ")",
          () -> x.value(policy, field, day, known), () -> m.value(policy, field, day, known));
      case 14 -> check(told, run, "isCovered(" + policy + ", " + day + ", " + known + ")",
          () -> x.isCovered(policy, day, known), () -> m.isCovered(policy, day, known));
      case 15 -> check(told, run, "rate(" + policy + ", " + day + ", " + known + ")",
          () -> x.rate(policy, day, known), () -> m.rate(policy, day, known));
      case 16 -> check(told, run, "segments(" + policy + ", " + known + ")",
          () -> x.segments(policy, known), () -> m.segments(policy, known));
      case 17 -> check(told, run, "segmentStart(" + policy + ", " + segment + ", " + known + ")",
          () -> x.segmentStart(policy, segment, known), () -> m.segmentStart(policy, segment, known));
      case 18 -> check(told, run, "segmentPremium(" + policy + ", " + segment + ", " + known + ")",
          () -> x.segmentPremium(policy, segment, known),
          () -> m.segmentPremium(policy, segment, known));
      case 19 -> check(told, run, "premium(" + policy + ", " + known + ")",
          () -> x.premium(policy, known), () -> m.premium(policy, known));
      case 20 -> check(told, run, "premiumByDays(" + policy + ", " + known + ")",
          () -> x.premiumByDays(policy, known), () -> m.premium(policy, known));
      default -> {
        check(told, run, "bill(" + policy + ")", () -> x.bill(policy), () -> m.bill(policy));
        check(told, run, "billed(" + policy + ")", () -> x.billed(policy), () -> m.billed(policy));
      }
    }
  }

  private static void check(List<String> told, int run, String call, Expect.Call asked, Expect.Call due) {
    told.add(call);
    if (told.size() > CALLS) {
      return;
    }
    Expect.due("run " + run + ", call " + told.size() + ", " + call, Expect.outcome(due), asked);
  }

  /** The document's words taken one by one, without regard to speed. */
  private static final class Model {
    private static final class Told {
      int number;
      int policy;
      String kind;
      int field;
      int from;
      int amount;
      int on;
      int takenBack = Integer.MAX_VALUE;
    }

    private record Tariff(int field, int weight, int from) {
    }

    private record Version(int[] values, boolean covered) {
    }

    private record Segment(int start, int end) {
    }

    final List<Integer> bases = new ArrayList<>();
    final List<Integer> billed = new ArrayList<>();
    final List<Tariff> tariffs = new ArrayList<>();
    final List<Told> changes = new ArrayList<>();
    int today = 0;

    private static void index(boolean there) {
      if (!there) {
        throw new IndexOutOfBoundsException();
      }
    }

    private static void argument(boolean right) {
      if (!right) {
        throw new IllegalArgumentException();
      }
    }

    private static void state(boolean right) {
      if (!right) {
        throw new IllegalStateException();
      }
    }

    private boolean isPolicy(int policy) {
      return policy >= 0 && policy < bases.size();
    }

    private static boolean isIn(int number, int lowest, int highest) {
      return number >= lowest && number <= highest;
    }

    int open(int base) {
      argument(isIn(base, 1, 1000));
      state(bases.size() < 4);
      bases.add(base);
      billed.add(0);
      return bases.size() - 1;
    }

    int setWeight(int field, int weight, int from) {
      index(isIn(field, 0, 2));
      argument(isIn(weight, 0, 100) && isIn(from, 0, 364));
      state(tariffs.size() < 20);
      tariffs.add(new Tariff(field, weight, from));
      return tariffs.size();
    }

    int pass(int days) {
      argument(isIn(days, 1, 100));
      today += days;
      return today;
    }

    private int tell(int policy, String kind, int field, int from, int amount) {
      state(changes.size() < 60);
      Told told = new Told();
      told.number = changes.size();
      told.policy = policy;
      told.kind = kind;
      told.field = field;
      told.from = from;
      told.amount = amount;
      told.on = today;
      changes.add(told);
      return told.number;
    }

    int change(int policy, int field, int from, int value) {
      index(isPolicy(policy) && isIn(field, 0, 2));
      argument(isIn(from, 0, 364) && isIn(value, 0, 20));
      return tell(policy, "change", field, from, value);
    }

    int add(int policy, int field, int from, int number) {
      index(isPolicy(policy) && isIn(field, 0, 2));
      argument(isIn(from, 0, 364) && isIn(number, -20, 20));
      return tell(policy, "add", field, from, number);
    }

    int cover(int policy, int from, String kind) {
      index(isPolicy(policy));
      argument(isIn(from, 0, 364));
      return tell(policy, kind, -1, from, 0);
    }

    int takeBack(int number) {
      index(isIn(number, 0, changes.size() - 1));
      Told told = changes.get(number);
      state(told.takenBack == Integer.MAX_VALUE);
      told.takenBack = today;
      return told.on;
    }

    private static boolean isKnown(Told told, int day) {
      return told.on <= day && !(told.takenBack <= day);
    }

    int laidAnew(int number) {
      index(isIn(number, 0, changes.size() - 1));
      Told late = changes.get(number);
      int count = 0;
      for (Told told : changes) {
        if (told.policy == late.policy && told.number < number && isKnown(told, today)
            && told.from > late.from) {
          count++;
        }
      }
      return count;
    }

    private Version version(int policy, int day, int known) {
      List<Told> laid = new ArrayList<>();
      for (Told told : changes) {
        if (told.policy == policy && isKnown(told, known) && told.from <= day) {
          laid.add(told);
        }
      }
      laid.sort(Comparator.comparingInt((Told told) -> told.from).thenComparingInt(told -> told.number));
      int[] values = new int[3];
      boolean covered = true;
      for (Told told : laid) {
        switch (told.kind) {
          case "change" -> values[told.field] = told.amount;
          case "add" -> values[told.field] = Math.max(0, Math.min(20, values[told.field] + told.amount));
          case "cancel" -> covered = false;
          default -> covered = true;
        }
      }
      return new Version(values, covered);
    }

    int value(int policy, int field, int day, int known) {
      index(isPolicy(policy) && isIn(field, 0, 2));
      argument(isIn(day, 0, 364) && isIn(known, 0, today));
      return version(policy, day, known).values()[field];
    }

    boolean isCovered(int policy, int day, int known) {
      index(isPolicy(policy));
      argument(isIn(day, 0, 364) && isIn(known, 0, today));
      return version(policy, day, known).covered();
    }

    private int weight(int field, int day) {
      int weight = 1;
      int latest = -1;
      for (Tariff tariff : tariffs) {
        if (tariff.field() == field && tariff.from() <= day && tariff.from() >= latest) {
          latest = tariff.from();
          weight = tariff.weight();
        }
      }
      return weight;
    }

    int rate(int policy, int day, int known) {
      index(isPolicy(policy));
      argument(isIn(day, 0, 364) && isIn(known, 0, today));
      Version version = version(policy, day, known);
      int sum = bases.get(policy);
      for (int field = 0; field < 3; field++) {
        sum += version.values()[field] * weight(field, day);
      }
      return version.covered() ? sum : 0;
    }

    private List<Segment> segmentsOf(int policy, int known) {
      List<Segment> all = new ArrayList<>();
      int day = 0;
      while (day < 365) {
        int end = day + 1;
        if (version(policy, day, known).covered()) {
          while (end < 365 && version(policy, end, known).covered()
              && rate(policy, end, known) == rate(policy, day, known)) {
            end++;
          }
          all.add(new Segment(day, end));
        }
        day = end;
      }
      return all;
    }

    private int charge(int policy, int day, int known) {
      int sum = 0;
      for (int ahead = 0; ahead < day; ahead++) {
        sum += rate(policy, ahead, known);
      }
      return Math.floorDiv(sum, 365);
    }

    /** About how many segments a policy may have, for choosing which one to ask for. */
    int segmentGuess(int policy) {
      return changes.size() / Math.max(bases.size(), 1) + tariffs.size();
    }

    int segments(int policy, int known) {
      index(isPolicy(policy));
      argument(isIn(known, 0, today));
      return segmentsOf(policy, known).size();
    }

    private Segment segment(int policy, int segment, int known) {
      argument(isIn(known, 0, today));
      index(isPolicy(policy));
      List<Segment> all = segmentsOf(policy, known);
      index(isIn(segment, 0, all.size() - 1));
      return all.get(segment);
    }

    int segmentStart(int policy, int segment, int known) {
      return segment(policy, segment, known).start();
    }

    int segmentPremium(int policy, int segment, int known) {
      Segment found = segment(policy, segment, known);
      return charge(policy, found.end(), known) - charge(policy, found.start(), known);
    }

    int premium(int policy, int known) {
      index(isPolicy(policy));
      argument(isIn(known, 0, today));
      return charge(policy, 365, known);
    }

    int bill(int policy) {
      index(isPolicy(policy));
      int amount = premium(policy, today) - billed.get(policy);
      billed.set(policy, billed.get(policy) + amount);
      return amount;
    }

    int billed(int policy) {
      index(isPolicy(policy));
      return billed.get(policy);
    }
  }
}
