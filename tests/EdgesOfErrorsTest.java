// What holds for every act: its ERRORS, their order, what they leave as it was,
// how it cuts and how long it goes on. The promise named is one that shows it.
public final class EdgesOfErrorsTest extends Sentences {
  public static void main(String[] args) throws Exception {
    run(EdgesOfErrorsTest.class);
  }

  /** A PLACE with m 0 and number 0, alone; the TAPE, what waits and WEEKS are full. */
  private static LoudMarket worn() {
    LoudMarket x = with(0, 47, 30);
    x.rule(0, 1);
    x.sheet(0, 8, 4);
    x.sheet(1, 16, 4);
    for (int i = 0; i < 166; i++) {
      x.weeks(60);
    }
    x.weeks(39);
    feed(x, "1".repeat(60));
    for (int i = 0; i < 24; i++) {
      x.tell(i);
    }
    return x;
  }

  // ---- ERRORS

  @Asks(of = "Promise 40, Terms 0",
      says = "ERRORS are answers below -1000000: LOW is -1000000; LOW - 1 BEYOND, LOW - 2 NONE, LOW - 3 STATE, LOW - 4 FULL, LOW - 5 KIND, LOW - 6 PARTED.")
  static void errorsByTheirNumbers() {
    LoudMarket x = worn();
    due("BEYOND", x.far(80, 0), -1000001);
    due("NONE", x.whose(), -1000002);
    due("STATE", x.weeks(1), -1000003);
    due("FULL", x.tell(0), -1000004);
    due("KIND", x.as(0, 1), -1000005);
    due("PARTED", x.voice(0, 3, 1), -1000006);
  }

  @Asks(of = "Promise 40, Terms 0", says = "Each act tells its ERRORS in the order in which they are asked;")
  static void beyondIsAskedFirst() {
    LoudMarket x = worn();
    due("ground, STATE", x.ground(44, 1), STATE);
    due("ground, ahead of STATE", x.ground(44, 3), BEYOND);
    due("as, KIND", x.as(0, 1), KIND);
    due("as, ahead of KIND", x.as(0, 7), BEYOND);
    due("as, ahead of KIND", x.as(1, 1), BEYOND);
    due("feed, FULL", x.feed(0, 8), FULL);
    due("feed, ahead of FULL", x.feed(0, 9), BEYOND);
    due("weeks, STATE", x.weeks(60), STATE);
    due("weeks, ahead of STATE", x.weeks(61), BEYOND);
    due("coins, STATE", x.coins(60), STATE);
    due("coins, ahead of STATE", x.coins(61), BEYOND);
    due("comes, NONE", x.comes(45, 60), NONE);
    due("comes, ahead of NONE", x.comes(45, 61), BEYOND);
    due("comes, ahead of NONE", x.comes(80, 60), BEYOND);
    due("least, NONE", x.least(0, 60), NONE);
    due("least, ahead of NONE", x.least(0, 61), BEYOND);
    due("least, ahead of NONE", x.least(1, 60), BEYOND);
    due("hush, NONE", x.hush(0, 60), NONE);
    due("hush, ahead of NONE", x.hush(0, 61), BEYOND);
    due("hush, ahead of NONE", x.hush(1, 60), BEYOND);
    due("voice, PARTED", x.voice(0, 3, 1), PARTED);
    due("voice, ahead of PARTED", x.voice(1, 3, 1), BEYOND);
    due("voices, NONE", x.voices(3), NONE);
    due("voices, ahead of NONE", x.voices(4), BEYOND);
    due("judge, NONE", x.judge(3), NONE);
    due("judge, ahead of NONE", x.judge(4), BEYOND);
    due("share, NONE", new LoudMarket().share(0), NONE);
    due("share, ahead of NONE", new LoudMarket().share(2), BEYOND);
    due("place, FULL", crowded().place(0, 0, 0), FULL);
    due("place, ahead of FULL", crowded().place(700, 0, 0), BEYOND);
  }

  @Asks(of = "Promise 32, Terms 0", says = "Each act tells its ERRORS in the order in which they are asked;")
  static void ordersOfThreeAndFour() {
    LoudMarket x = worn();
    due("sheet: which, of all three", x.sheet(4, 9, -1), BEYOND);
    due("sheet: bits, ahead of STATE", x.sheet(0, 9, -1), BEYOND);
    due("sheet: STATE", x.sheet(0, 8, -1), STATE);
    due("sheet: n", x.sheet(0, 8, 25), BEYOND);
    due("put: which, of all three", x.put(4, 99, 0), BEYOND);
    due("put: missing, ahead of a number", x.put(3, 99, 0), NONE);
    due("put: a number", x.put(0, 99, 0), BEYOND);
    due("move: which, of all four", x.move(4, -1, 3, -1, -1), BEYOND);
    due("move: missing, ahead of two", x.move(0, -1, 3, -1, -1), NONE);
    due("move: unlike, ahead of numbers", x.move(0, -1, 1, -1, -1), KIND);
    due("move: numbers", x.move(0, -1, 0, -1, -1), BEYOND);
    due("BEYOND", x.told(1), 7);
    due("NONE", x.told(2), 2);
    due("STATE", x.told(3), 1);
    due("KIND", x.told(5), 1);
  }

  @Asks(of = "Promise 14, Terms 0", says = "one that answers an ERROR changes nothing but what told() tells, or where told.")
  static void refusedInAFullWorld() {
    refused(EdgesOfErrorsTest::worn, "weeks(1)", x -> x.weeks(1), STATE);
    refused(EdgesOfErrorsTest::worn, "coins(1)", x -> x.coins(1), STATE);
    refused(EdgesOfErrorsTest::worn, "feed('1', 1)", x -> x.feed('1', 1), FULL);
    refused(EdgesOfErrorsTest::worn, "tell(7)", x -> x.tell(7), FULL);
    refused(EdgesOfErrorsTest::worn, "restore()", x -> x.restore(), NONE);
    refused(EdgesOfErrorsTest::worn, "whose()", x -> x.whose(), NONE);
  }

  @Asks(of = "Promise 28, Terms 0", says = "one that answers an ERROR changes nothing but what told() tells, or where told.")
  static void partedChangesTheTraceAlone() {
    Made spoken = () -> {
      LoudMarket x = busy();
      x.set(4, 0, 0);
      x.set(4, 1, 5);
      x.voice(4, 3, 0);
      x.set(4, 1, 4);
      return x;
    };
    refused(spoken, "voice(4, 3, 9)", x -> x.voice(4, 3, 9), PARTED);
  }

  // ---- numbers

  @Asks(of = "Promise 14, Terms 0", says = "Quotients are cut toward 0.")
  static void quotientsAreCut() {
    LoudMarket x = with(500, 47, 5);
    x.rule(1, 0);
    x.set(0, 5, 0);
    due("COST of 5", -x.thenPlace(1, 0, 6), 1);
    due("HOARSE of 5", x.thenPlace(1, 0, 4), 2);
    text(x, 0, "(0-7)/2+9");
    due("-7 / 2 in a TEXT", x.placeIs(0, 8), 6);
    text(x, 0, "7/(0-2)+9");
    due("7 / -2 in a TEXT", x.placeIs(0, 8), 6);
    x.set(0, 1, 2);
    due("pays: -7 by 2", x.voice(0, 3, -7), -3);
    x.set(0, 0, 3);
    due("rests: 2 * (-7 / 2 - 4) - 2", x.voice(0, 2, -7), -16);
  }

  @Asks(of = "Promise 1", says = "An object is used for at most 512 calls after it has been made;")
  static void theLastCall() {
    LoudMarket x = with(0, 47, 0);
    for (int call = 2; call < 512; call++) {
      x.weeks(1);
    }
    due("the 512th", x.count(2), 510);
    x = with(500, 44, 0);
    for (int call = 2; call < 512; call++) {
      due("call " + call, x.beside(0, 20), 44);
    }
    due("the 512th", x.beside(0, 20), 44);
  }
}
