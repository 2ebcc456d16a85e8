/** How objects stand ahead of a call: each story leads a new object to where it is asked. */
enum Story {
  /** Nothing there yet. */
  NEW(0, 0, 0, Backdater.NONE) {
    @Override
    void tell(Backdater x) {
    }
  },
  /** A policy, but no change, no tariff and no day passed. */
  OPENED(1, 0, 0, Backdater.NONE) {
    @Override
    void tell(Backdater x) {
      x.open(1);
    }
  },
  /** Some of each, and room for more. */
  ORDINARY(2, 8, 12, 2) {
    @Override
    void tell(Backdater x) {
      x.open(365);
      x.setWeight(0, 10, 30);
      x.change(0, 0, 30, 5);
      x.pass(7);
      x.open(100);
      x.add(1, 1, 20, 4);
      x.change(1, 2, 0, 20);
      x.cancel(1, 200);
      x.bill(0);
      x.pass(3);
      x.reinstate(1, 300);
      x.takeBack(2);
      x.add(0, 2, 29, -3);
      x.setWeight(1, 0, 199);
      x.bill(1);
      x.pass(2);
      x.add(0, 1, 199, 20);
      x.cancel(0, 364);
    }
  },
  /** All limits reached: 4 policies, 20 tariffs, 60 changes. */
  FULL(4, 60, 160, 30) {
    @Override
    void tell(Backdater x) {
      for (int policy = 0; policy < 4; policy++) {
        x.open(250 * policy + 1);
      }
      for (int tariff = 0; tariff < 20; tariff++) {
        x.setWeight(tariff % 3, 5 * tariff, 19 * tariff);
      }
      x.pass(100);
      for (int number = 0; number < 60; number++) {
        tellOneOfSixty(x, number);
      }
      x.takeBack(30);
      x.bill(3);
      x.pass(60);
      x.bill(1);
    }
  };

  final int policies;
  final int changes;
  final int today;
  /** The number of a change that was taken back, if there is one. */
  final int takenBack;

  Story(int policies, int changes, int today, int takenBack) {
    this.policies = policies;
    this.changes = changes;
    this.today = today;
    this.takenBack = takenBack;
  }

  abstract void tell(Backdater x);

  Backdater begun() {
    Backdater x = new Backdater();
    tell(x);
    return x;
  }

  boolean isFull() {
    return this == FULL;
  }

  private static void tellOneOfSixty(Backdater x, int number) {
    int policy = number % 4;
    int from = (number * 53) % 365;
    if (number % 10 == 8) {
      x.cancel(policy, from);
    } else if (number % 10 == 9) {
      x.reinstate(policy, from);
    } else if (number % 2 == 0) {
      x.change(policy, number % 3, from, number % 21);
    } else {
      x.add(policy, number % 3, from, number % 41 - 20);
    }
  }
}
