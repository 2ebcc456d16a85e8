import java.util.ArrayList;
import java.util.List;
import java.util.Set;
import java.util.TreeSet;

/**
 * "If several exceptions apply to a call, the one that its throws clause names first is thrown; a call that
 * throws changes nothing": every call with both ends of every range that a promise names and one beyond
 * each end, put together in every way, on objects of every story. What is in range is accepted.
 */
public final class RefusalTest {
  private static final Class<?> INDEX = IndexOutOfBoundsException.class;
  private static final Class<?> ARGUMENT = IllegalArgumentException.class;
  private static final Class<?> STATE = IllegalStateException.class;
  /** There are never more segments: 60 changes and 20 tariffs begin one each, and the day 0 begins one. */
  private static final int MOST_SEGMENTS = 81;

  private interface Made {
    Object on(Backdater x, int[] given);
  }

  /** A number that may be given, and what it makes the call throw; null if it is right. */
  private record Given(int number, Class<?> thrown) {
  }

  /** The throws clause in its order, and for each argument what may be given; those far off go alone. */
  private record Call(String name, List<Class<?>> clause, boolean limited, Made made,
      List<List<Given>> arguments) {
  }

  private static final Set<String> ASKING = Set.of("laidAnew", "value", "isCovered", "rate", "segments",
      "segmentStart", "segmentPremium", "premium", "premiumByDays", "billed");

  private static final Set<String> metTogether = new TreeSet<>();

  private final Story story;
  private final String untouched;

  private RefusalTest(Story story) {
    this.story = story;
    this.untouched = Picture.of(story.begun());
  }

  public static void main(String[] args) {
    for (Story story : Story.values()) {
      RefusalTest test = new RefusalTest(story);
      test.storyStandsAsItSays();
      for (Call call : test.calls()) {
        test.giveAll(call, new ArrayList<>());
        test.giveFarOff(call);
      }
    }
    everyPairWasMet();
    Expect.end("RefusalTest");
  }

  /** Else the ends that depend on the object would be asked at the wrong places. */
  private void storyStandsAsItSays() {
    Backdater x = story.begun();
    Expect.due(story + " today", story.today, x::today);
    Expect.due(story + " changes", story.changes, x::changes);
    for (int policy = 0; policy <= story.policies; policy++) {
      int asked = policy;
      Expect.due(story + " policy " + policy, policy < story.policies,
          () -> Expect.outcome(() -> x.billed(asked)) instanceof Integer);
    }
  }

  private List<Call> calls() {
    List<Class<?>> all = List.of(INDEX, ARGUMENT, STATE);
    List<Class<?>> asked = List.of(INDEX, ARGUMENT);
    List<Class<?>> segment = List.of(ARGUMENT, INDEX);
    List<Given> field = among(0, 2, INDEX);
    List<Given> day = among(0, 364, ARGUMENT);
    List<Given> known = among(0, story.today, ARGUMENT);
    List<Given> segments = List.of(new Given(0, null), new Given(-1, INDEX), new Given(MOST_SEGMENTS, INDEX));
    List<Given> policy = among(0, story.policies - 1, INDEX);
    List<Given> change = among(0, story.changes - 1, INDEX);
    List<Given> taken = new ArrayList<>(change);
    if (story.takenBack != Backdater.NONE) {
      taken.add(new Given(story.takenBack, STATE));
    }
    return List.of(
        new Call("open", List.of(ARGUMENT, STATE), true, (x, a) -> x.open(a[0]),
            List.of(among(1, 1000, ARGUMENT))),
        new Call("setWeight", all, true, (x, a) -> x.setWeight(a[0], a[1], a[2]),
            List.of(field, among(0, 100, ARGUMENT), day)),
        new Call("pass", List.of(ARGUMENT), false, (x, a) -> x.pass(a[0]), List.of(among(1, 100, ARGUMENT))),
        new Call("change", all, true, (x, a) -> x.change(a[0], a[1], a[2], a[3]),
            List.of(policy, field, day, among(0, 20, ARGUMENT))),
        new Call("add", all, true, (x, a) -> x.add(a[0], a[1], a[2], a[3]),
            List.of(policy, field, day, among(-20, 20, ARGUMENT))),
        new Call("cancel", all, true, (x, a) -> x.cancel(a[0], a[1]), List.of(policy, day)),
        new Call("reinstate", all, true, (x, a) -> x.reinstate(a[0], a[1]), List.of(policy, day)),
        new Call("takeBack", List.of(INDEX, STATE), false, (x, a) -> x.takeBack(a[0]), List.of(taken)),
        new Call("laidAnew", List.of(INDEX), false, (x, a) -> x.laidAnew(a[0]), List.of(change)),
        new Call("value", asked, false, (x, a) -> x.value(a[0], a[1], a[2], a[3]),
            List.of(policy, field, day, known)),
        new Call("isCovered", asked, false, (x, a) -> x.isCovered(a[0], a[1], a[2]),
            List.of(policy, day, known)),
        new Call("rate", asked, false, (x, a) -> x.rate(a[0], a[1], a[2]), List.of(policy, day, known)),
        new Call("segments", asked, false, (x, a) -> x.segments(a[0], a[1]), List.of(policy, known)),
        new Call("segmentStart", segment, false, (x, a) -> x.segmentStart(a[0], a[1], a[2]),
            List.of(policy, segments, known)),
        new Call("segmentPremium", segment, false, (x, a) -> x.segmentPremium(a[0], a[1], a[2]),
            List.of(policy, segments, known)),
        new Call("premium", asked, false, (x, a) -> x.premium(a[0], a[1]), List.of(policy, known)),
        new Call("premiumByDays", asked, false, (x, a) -> x.premiumByDays(a[0], a[1]),
            List.of(policy, known)),
        new Call("bill", List.of(INDEX), false, (x, a) -> x.bill(a[0]), List.of(policy)),
        new Call("billed", List.of(INDEX), false, (x, a) -> x.billed(a[0]), List.of(policy)));
  }

  /** Both ends, and one beyond each; where there is nothing in the range, the numbers about it alone. */
  private static List<Given> among(int lowest, int highest, Class<?> thrown) {
    List<Given> list = new ArrayList<>();
    if (lowest <= highest) {
      list.add(new Given(lowest, null));
    }
    if (lowest < highest) {
      list.add(new Given(highest, null));
    }
    list.add(new Given(lowest - 1, thrown));
    list.add(new Given(highest + 1, thrown));
    return list;
  }

  private void giveAll(Call call, List<Given> sofar) {
    if (sofar.size() == call.arguments().size()) {
      make(call, sofar);
      return;
    }
    for (Given given : call.arguments().get(sofar.size())) {
      List<Given> longer = new ArrayList<>(sofar);
      longer.add(given);
      giveAll(call, longer);
    }
  }

  /** The smallest and the largest int for each argument; each other one is what comes first for it. */
  private void giveFarOff(Call call) {
    for (int place = 0; place < call.arguments().size(); place++) {
      for (int far : new int[] {Integer.MIN_VALUE, Integer.MAX_VALUE}) {
        List<Given> given = new ArrayList<>();
        for (List<Given> argument : call.arguments()) {
          given.add(argument.get(0));
        }
        List<Given> argument = call.arguments().get(place);
        given.set(place, new Given(far, outOfRange(argument)));
        make(call, given);
      }
    }
  }

  private static Class<?> outOfRange(List<Given> argument) {
    for (Given given : argument) {
      if (given.thrown() != null) {
        return given.thrown();
      }
    }
    return null;
  }

  private void make(Call call, List<Given> given) {
    List<Class<?>> applying = new ArrayList<>();
    for (Class<?> exception : call.clause()) {
      boolean limitReached = exception == STATE && call.limited() && story.isFull();
      if (limitReached || given.stream().anyMatch(one -> one.thrown() == exception)) {
        applying.add(exception);
      }
    }
    int[] numbers = given.stream().mapToInt(Given::number).toArray();
    StringBuilder told = new StringBuilder(story + ": " + call.name());
    for (int number : numbers) {
      told.append(' ').append(number);
    }
    Backdater x = story.begun();
    if (applying.isEmpty()) {
      accept(told.toString(), x, call, numbers);
      return;
    }
    Expect.due(told.toString(), applying.get(0), () -> call.made().on(x, numbers));
    Expect.due(told + " changes nothing", "", () -> Picture.difference(untouched, Picture.of(x)));
    notePairs(call, applying);
  }

  private void accept(String told, Backdater x, Call call, int[] numbers) {
    Expect.due(told + " is refused", false,
        () -> Expect.outcome(() -> call.made().on(x, numbers)) instanceof Class);
    if (ASKING.contains(call.name())) {
      Expect.due(told + " changes nothing", "", () -> Picture.difference(untouched, Picture.of(x)));
    }
  }

  private static void notePairs(Call call, List<Class<?>> applying) {
    for (int i = 0; i < applying.size(); i++) {
      for (int k = i + 1; k < applying.size(); k++) {
        metTogether.add(call.name() + " " + nameOf(applying.get(i)) + " " + nameOf(applying.get(k)));
      }
    }
  }

  private static String nameOf(Class<?> exception) {
    return exception == INDEX ? "index" : exception == ARGUMENT ? "argument" : "state";
  }

  /** All pairs of exceptions that can apply to one call; those of takeBack shut each other out. */
  private static void everyPairWasMet() {
    Set<String> pairs = new TreeSet<>();
    pairs.add("open argument state");
    for (String name : List.of("setWeight", "change", "add", "cancel", "reinstate")) {
      pairs.add(name + " index argument");
      pairs.add(name + " index state");
      pairs.add(name + " argument state");
    }
    for (String name : List.of("value", "isCovered", "rate", "segments", "premium", "premiumByDays")) {
      pairs.add(name + " index argument");
    }
    pairs.add("segmentStart argument index");
    pairs.add("segmentPremium argument index");
    Expect.due("the pairs of exceptions that were met", pairs, () -> metTogether);
  }
}
