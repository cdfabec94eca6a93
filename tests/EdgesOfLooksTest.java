// Promises 18 to 27: each sentence that names an edge of a look ahead, or of
// what is best and shared, has a test of its own.
public final class EdgesOfLooksTest extends Sentences {
  public static void main(String[] args) throws Exception {
    run(EdgesOfLooksTest.class);
  }

  /** An act that answers no ERROR and changes nothing, not even what told() tells. */
  private static void looks(String call, Act act) {
    long answer = act.on(busy());
    must(answer >= LOW, call + " answered " + answer);
    unchanged(Sentences::busy, call, act, (int) answer);
  }

  /** THE MARKET goes from 44 to 47 in three WEEKS, then stays. */
  private static LoudMarket going() {
    return with(110, 47, 60);
  }

  // ---- promise 18

  @Asks(of = "Promise 18", says = "AHEAD by n: THE MARKET's CELL. BEYOND.")
  static void thenBeyond() {
    refused("then(-1)", x -> x.then(-1), BEYOND);
    refused("then(61)", x -> x.then(61), BEYOND);
    refused("then(MIN)", x -> x.then(MIN), BEYOND);
    refused("then(MAX)", x -> x.then(MAX), BEYOND);
  }

  @Asks(of = "Promise 18, Terms 4", says = "AHEAD by n (0 .. 60): as so many WEEKS would go by.")
  static void aheadFromNothingToSixty() {
    LoudMarket x = going();
    due("then(0)", x.then(0), 44);
    due("then(1)", x.then(1), 45);
    due("then(3)", x.then(3), 47);
    due("then(60)", x.then(60), 47);
    looks("then(0)", y -> y.then(0));
    looks("then(60)", y -> y.then(60));
    x = with(500, 44, 0);
    text(x, 0, "w=59");
    x.place(100, 0, 0);
    text(x, 1, "7");
    x.set(0, 5, 0);
    due("59 WEEKS", x.thenPlace(59, 0, 6), 0);
    due("60 WEEKS", x.thenPlace(60, 0, 6), -7);
    due("ahead of the last WEEKS", old().then(60), 47);
    due("WEEKS ahead go on", old().thenPlace(60, 0, 4), 0);
  }

  // ---- promise 19

  @Asks(of = "Promise 19", says = "AHEAD by n: of a PLACE what (0 .. 9) as in placeIs(). BEYOND.")
  static void thenPlaceBeyond() {
    int[] is = {1, 10, 47, 60, 27, 20, -4, 0, 33, 16};
    for (int what = 0; what < 10; what++) {
      int asked = what;
      due("thenPlace(1, 0, " + what + ")", going().thenPlace(1, 0, what), is[what]);
      due("thenPlace(0, 0, " + what + ")", going().thenPlace(0, 0, what), going().placeIs(0, what));
      looks("thenPlace(60, 6, " + what + ")", x -> x.thenPlace(60, 6, asked));
    }
    refused("thenPlace(-1, 0, 0)", x -> x.thenPlace(-1, 0, 0), BEYOND);
    refused("thenPlace(61, 0, 0)", x -> x.thenPlace(61, 0, 0), BEYOND);
    refused("thenPlace(1, -1, 0)", x -> x.thenPlace(1, -1, 0), BEYOND);
    refused("thenPlace(1, 7, 0)", x -> x.thenPlace(1, 7, 0), BEYOND);
    refused("thenPlace(1, 0, -1)", x -> x.thenPlace(1, 0, -1), BEYOND);
    refused("thenPlace(1, 0, 10)", x -> x.thenPlace(1, 0, 10), BEYOND);
    refused("thenPlace(MIN, MAX, MIN)", x -> x.thenPlace(MIN, MAX, MIN), BEYOND);
    due("no PLACES", new LoudMarket().thenPlace(1, 0, 0), BEYOND);
  }

  // ---- promise 20

  @Asks(of = "Promise 20", says = "WHOSE. NONE.")
  static void whoseNone() {
    refused(Sentences::byPulls, "whose() BY PULLS", x -> x.whose(), NONE);
    refused(Sentences::empty, "whose() without PLACES", x -> x.whose(), NONE);
    LoudMarket x = going();
    x.place(100, 40, 60);
    due("two have it", x.whose(), NONE);
    due("counted", x.told(2), 1);
  }

  @Asks(of = "Promise 20, Terms 4",
      says = "WHOSE: the PLACE for which it would go this WEEK (none if it stays for want of one, or BY PULLS).")
  static void whoseForWantOfOne() {
    LoudMarket x = with(100, 47, 1);
    due("one shouts 1", x.whose(), 0);
    x.set(0, 3, 0);
    due("none shouts", x.whose(), NONE);
    x.set(0, 3, 60);
    x.place(100, 40, 61);
    due("the louder", x.whose(), 1);
    x.rule(0, 1);
    due("BY PULLS", x.whose(), NONE);
    x.rule(0, 0);
    x.set(0, 3, 61);
    due("two have it", x.whose(), NONE);
    x.place(100, 41, 62);
    due("louder than two", x.whose(), 2);
    x.place(500, 44, 63);
    due("one where it is", x.whose(), 3);
    x = going();
    x.ground(45, 1);
    due("it stays, but not for want of one", x.whose(), 0);
  }

  // ---- promise 21

  @Asks(of = "Promise 21", says = "COMES. BEYOND: n 0 .. 60. NONE.")
  static void comesBeyond() {
    refused("comes(44, -1)", x -> x.comes(44, -1), BEYOND);
    refused("comes(44, 61)", x -> x.comes(44, 61), BEYOND);
    refused("comes(-1, 60)", x -> x.comes(-1, 60), BEYOND);
    refused("comes(80, 60)", x -> x.comes(80, 60), BEYOND);
    refused("comes(MIN, MAX)", x -> x.comes(MIN, MAX), BEYOND);
    refused("BEYOND ahead of NONE", x -> x.comes(3, 61), BEYOND);
    looks("comes(where it is, 0)", x -> x.comes(x.count(1), 0));
    looks("comes(where it is, 60)", x -> x.comes(x.count(1), 60));
  }

  @Asks(of = "Promise 21, Terms 4", says = "COMES to a CELL by n: behind how many WEEKS (0 .. n) it stands there first.")
  static void comesWithin() {
    due("now", going().comes(44, 0), 0);
    due("now, by 60", going().comes(44, 60), 0);
    due("behind 3", going().comes(47, 60), 3);
    due("behind 3 by 3", going().comes(47, 3), 3);
    due("behind 3 by 2", going().comes(47, 2), NONE);
    due("not now", going().comes(45, 0), NONE);
    due("never", going().comes(0, 60), NONE);
    LoudMarket x = with(500, 47, 0);
    text(x, 0, "w=59");
    due("behind 60", x.comes(45, 60), 60);
    due("behind 60 by 59", x.comes(45, 59), NONE);
    x = going();
    x.ground(45, 1);
    due("to a RIVER", x.comes(45, 60), NONE);
    refused("NONE", y -> y.comes(3, 60), NONE);
  }

  // ---- promise 22

  @Asks(of = "Promise 22", says = "LEAST. BEYOND: n 0 .. 60. NONE.")
  static void leastBeyond() {
    refused("least(0, -1)", x -> x.least(0, -1), BEYOND);
    refused("least(0, 61)", x -> x.least(0, 61), BEYOND);
    refused("least(-1, 60)", x -> x.least(-1, 60), BEYOND);
    refused("least(7, 60)", x -> x.least(7, 60), BEYOND);
    refused("least(MIN, MAX)", x -> x.least(MIN, MAX), BEYOND);
    refused("NONE", x -> x.least(6, 60), NONE);
    refused("NONE of no WEEKS", x -> x.least(6, 0), NONE);
    refused("BEYOND ahead of NONE", x -> x.least(6, 61), BEYOND);
    LoudMarket x = with(100, 45, 7);
    due("by 60", x.least(0, 60), 1);
    due("its VOICE is as it was", x.placeIs(0, 3), 7);
    due("no PLACES", new LoudMarket().least(0, 0), BEYOND);
    unchanged(EdgesOfLooksTest::going, "least(0, 3)", y -> y.least(0, 3), 1);
  }

  @Asks(of = "Promise 22, Terms 4",
      says = "LEAST of a PLACE by n: the least VOICE (0 .. 99) with which THE MARKET stands in its CELL within n WEEKS.")
  static void leastVoice() {
    LoudMarket x = with(100, 45, 50);
    x.place(100, 40, 30);
    due("louder than 30", x.least(0, 1), 31);
    due("no WEEKS", x.least(0, 0), NONE);
    x.set(1, 3, 98);
    due("99", x.least(0, 1), 99);
    x.set(1, 3, 99);
    due("100 would be needed", x.least(0, 1), NONE);
    x.set(1, 7, 1);
    due("louder than none", x.least(0, 1), 1);
    x.set(0, 2, 44);
    due("it stands there now", x.least(0, 0), 0);
    due("it stands there now, by 60", x.least(0, 60), 0);
    x.set(0, 2, 46);
    due("2 WEEKS' way in 1", x.least(0, 1), NONE);
    due("2 WEEKS' way in 2", x.least(0, 2), 1);
    x.set(0, 4, 20);
    due("HOARSE", x.least(0, 2), 21);
    x = with(100, 40, 1);
    x.place(500, 43, 1);
    x.place(100, 74, 0);
    text(x, 0, "9");
    due("it comes there and goes on", x.least(0, 60) >= 0 ? 1 : 0, 1);
    due("another brings it there", x.least(1, 1), 0);
  }

  // ---- promise 23

  @Asks(of = "Promise 23", says = "HUSH. BEYOND: n 0 .. 60. NONE: there is no other one.")
  static void hushBeyond() {
    refused("hush(0, -1)", x -> x.hush(0, -1), BEYOND);
    refused("hush(0, 61)", x -> x.hush(0, 61), BEYOND);
    refused("hush(-1, 60)", x -> x.hush(-1, 60), BEYOND);
    refused("hush(7, 60)", x -> x.hush(7, 60), BEYOND);
    refused("hush(MIN, MAX)", x -> x.hush(MIN, MAX), BEYOND);
    due("no PLACES", new LoudMarket().hush(0, 1), BEYOND);
    looks("hush(0, 0)", x -> x.hush(0, 0));
    looks("hush(3, 60)", x -> x.hush(3, 60));
  }

  @Asks(of = "Promise 23", says = "NONE: there is no other one.")
  static void hushNoOther() {
    refused(EdgesOfLooksTest::going, "hush(0, 60) alone", x -> x.hush(0, 60), NONE);
    refused(EdgesOfLooksTest::going, "hush(0, 0) alone", x -> x.hush(0, 0), NONE);
    refused(EdgesOfLooksTest::going, "BEYOND ahead of NONE", x -> x.hush(0, 61), BEYOND);
    LoudMarket x = going();
    x.place(0, 0, 0);
    due("one other", x.hush(0, 0), 1);
    due("one other", x.hush(1, 0), 0);
    x.set(0, 7, 1);
    due("one other, HUSHED as it is", x.hush(1, 1), 0);
  }

  @Asks(of = "Promise 23, Terms 4",
      says = "HUSH for a PLACE by n: the other PLACE that, were it HUSHED, makes its PURSE AHEAD by n greatest; of several the least.")
  static void hushOfSeveral() {
    LoudMarket x = new LoudMarket();
    for (int i = 0; i < 8; i++) {
      x.place(0, 44, 0);
    }
    due("all alike", x.hush(3, 60), 0);
    due("all alike, for the first", x.hush(0, 60), 1);
    x = new LoudMarket();
    x.place(0, 48, 0);
    x.place(100, 49, 9);
    x.place(100, 40, 10);
    due("who goes against it", x.hush(0, 1), 2);
    due("no WEEKS: of several the least", x.hush(0, 0), 1);
    x = new LoudMarket();
    x.place(100, 40, 10);
    x.place(0, 48, 0);
    x.place(100, 49, 9);
    due("the first is best", x.hush(1, 1), 0);
    x = new LoudMarket();
    x.place(500, 0, 99);
    x.place(500, 79, 98);
    x.place(500, 79, 97);
    x.set(0, 5, 0);
    text(x, 1, "99");
    due("PURSES below 0", x.hush(0, 3), 1);
    due("HUSHED is as it was", x.placeIs(1, 7), 0);
    x = new LoudMarket();
    x.place(500, 4, 90);
    x.place(0, 0, 0);
    x.place(500, 74, 99);
    x.set(0, 5, 8);
    text(x, 1, "99");
    due("PURSES below 0, not the first", x.hush(0, 2), 2);
  }

  // ---- promise 24

  @Asks(of = "Promise 24", says = "BEST CELL: what 0 which, 1 WORTHS there. BEYOND.")
  static void bestBeyond() {
    refused("best(-1)", x -> x.best(-1), BEYOND);
    refused("best(2)", x -> x.best(2), BEYOND);
    refused("best(MIN)", x -> x.best(MIN), BEYOND);
    refused("best(MAX)", x -> x.best(MAX), BEYOND);
    looks("best(0)", x -> x.best(0));
    looks("best(1)", x -> x.best(1));
  }

  @Asks(of = "Promise 24", says = "NONE: all is RIVER.")
  static void bestOfAllRiver() {
    LoudMarket x = new LoudMarket();
    for (int cell = 0; cell < 80; cell++) {
      x.ground(cell, 1);
    }
    due("79 RIVERS", x.count(3), 79);
    due("THE MARKET's can't be one", x.best(0), 44);
    due("WORTHS there", x.best(1), 0);
  }

  @Asks(of = "Promise 24, Terms 4",
      says = "BEST CELL: that (not RIVER) in which WORTHS of all are most together; of several the least.")
  static void bestOfSeveral() {
    LoudMarket x = new LoudMarket();
    due("no PLACES", x.best(0), 0);
    due("no WORTHS", x.best(1), 0);
    x.ground(0, 1);
    due("no PLACES, not RIVER", x.best(0), 1);
    x.place(0, 79, 0);
    due("the last CELL", x.best(0), 79);
    due("WORTHS there", x.best(1), 20);
    x.set(0, 1, 50);
    due("too loud there", x.best(0), 69);
    due("WORTHS there", x.best(1), 18);
    x.place(50, 77, 0);
    due("between both", x.best(0), 78);
    x.ground(78, 2);
    due("a HILL", x.best(0), 78);
    x.ground(78, 1);
    due("not RIVER; of several the least", x.best(0), 67);
    x.set(1, 7, 1);
    due("of one that is HUSHED, too", x.best(0), 67);
  }

  // ---- promise 25

  @Asks(of = "Promise 25", says = "BESIDE. BEYOND: n 0 .. 20.")
  static void besideBeyond() {
    due("no WEEKS", going().beside(0, 0), 0);
    looks("beside(0, 0)", x -> x.beside(0, 0));
    looks("beside(5, 20)", x -> x.beside(5, 20));
    refused("beside(0, -1)", x -> x.beside(0, -1), BEYOND);
    refused("beside(0, 21)", x -> x.beside(0, 21), BEYOND);
    refused("beside(0, 60)", x -> x.beside(0, 60), BEYOND);
    refused("beside(-1, 20)", x -> x.beside(-1, 20), BEYOND);
    refused("beside(7, 20)", x -> x.beside(7, 20), BEYOND);
    refused("beside(MIN, MAX)", x -> x.beside(MIN, MAX), BEYOND);
    due("no PLACES", new LoudMarket().beside(0, 0), BEYOND);
  }

  @Asks(of = "Promise 25, Terms 4",
      says = "BESIDE for a PLACE by n: the CELL (any) in which, if it stood there, its PURSE AHEAD by n would be greatest; of several the least.")
  static void besideOfSeveral() {
    LoudMarket x = with(0, 79, 0);
    due("THE MARKET's", x.beside(0, 1), 44);
    x.stand(0);
    due("the first", x.beside(0, 20), 0);
    x.stand(79);
    due("the last", x.beside(0, 20), 79);
    x.stand(44);
    x.set(0, 1, 50);
    due("beside it; of several the least", x.beside(0, 1), 34);
    x.ground(34, 1);
    due("any, a RIVER, too", x.beside(0, 20), 34);
    x.place(0, 34, 0);
    due("any, where one is, too", x.beside(0, 20), 34);
    due("it stands where it stood", x.placeIs(0, 2), 79);
    x = with(500, 79, 9);
    text(x, 1, "99");
    x.set(0, 5, 0);
    due("PURSES below 0, all alike", x.beside(0, 1), 0);
    x.set(0, 5, 4);
    x.set(0, 1, 50);
    due("PURSES below 0: where it comes beside it", x.beside(0, 1), 24);
  }

  // ---- promise 26

  @Asks(of = "Promise 26", says = "ROUND: what 0 TAIL, 1 LENGTH. BEYOND.")
  static void roundBeyond() {
    refused("round(-1)", x -> x.round(-1), BEYOND);
    refused("round(2)", x -> x.round(2), BEYOND);
    refused("round(MIN)", x -> x.round(MIN), BEYOND);
    refused("round(MAX)", x -> x.round(MAX), BEYOND);
    looks("round(0)", x -> x.round(0));
    looks("round(1)", x -> x.round(1));
  }

  /** HOARSE is more by 1 in WEEKS of a TEXT, up to 99. */
  private static LoudMarket hoarser(String weeks, int hoarse) {
    LoudMarket x = with(500, 44, 0);
    x.rule(1, 0);
    text(x, 0, weeks);
    x.set(0, 4, hoarse);
    return x;
  }

  @Asks(of = "Promise 26", says = "NONE: not within 200 WEEKS.")
  static void roundNotWithin() {
    refused(() -> hoarser("(w%2=0)*2", 0), "round(0)", x -> x.round(0), NONE);
    refused(() -> hoarser("(w%2=0)*2", 0), "round(1)", x -> x.round(1), NONE);
    refused(() -> hoarser("(w%2=0)*2", 0), "BEYOND ahead of NONE", x -> x.round(2), BEYOND);
  }

  @Asks(of = "Promise 26, Terms 4", says = "ROUND: the first WEEK (1 .. 200 from now)")
  static void roundWithin() {
    due("TAIL behind 200", hoarser("(w%2=1)*2", 1).round(0), 196);
    due("LENGTH behind 200", hoarser("(w%2=1)*2", 1).round(1), 4);
    due("TAIL behind 201", hoarser("(w%2=0)*2", 0).round(0), NONE);
    due("TAIL behind 199", hoarser("(w%2=0)*2", 1).round(0), 195);
    due("TAIL at once", new LoudMarket().round(0), 0);
    due("LENGTH at once", new LoudMarket().round(1), 4);
  }

  @Asks(of = "Promise 26, Terms 4",
      says = "behind which CELL and all HOARSE are as they were behind an earlier one (0 on) of the same WEEKS' rest by 4: TAIL, LENGTH.")
  static void roundOfTheSameRest() {
    LoudMarket x = with(500, 44, 0);
    text(x, 0, "(h=0)*98");
    x.rule(1, 10);
    due("each 5 WEEKS alike: LENGTH", x.round(1), 20);
    due("each 5 WEEKS alike: TAIL", x.round(0), 0);
    x = with(0, 0, 0);
    for (int i = 1; i < 8; i++) {
      x.place(0, 0, 0);
    }
    x.rule(1, 1);
    x.set(7, 4, 99);
    due("HOARSE of the last", x.round(0), 99);
    x.set(7, 4, 0);
    x.set(0, 4, 8);
    due("HOARSE of the first", x.round(0), 8);
    x = with(500, 49, 0);
    text(x, 0, "1");
    due("CELL alone", x.round(0), 5);
    due("LENGTH", x.round(1), 4);
    x.weeks(3);
    due("from now", x.round(0), 2);
  }

  // ---- promise 27

  @Asks(of = "Promise 27", says = "FAIR SHARE: what 0 the difference, 1 who. BEYOND.")
  static void shareBeyond() {
    refused("share(-1)", x -> x.share(-1), BEYOND);
    refused("share(2)", x -> x.share(2), BEYOND);
    refused("share(MIN)", x -> x.share(MIN), BEYOND);
    refused("share(MAX)", x -> x.share(MAX), BEYOND);
    looks("share(0)", x -> x.share(0));
    looks("share(1)", x -> x.share(1));
  }

  @Asks(of = "Promise 27", says = "NONE: there are no PLACES.")
  static void shareOfNone() {
    refused(Sentences::empty, "share(0)", x -> x.share(0), NONE);
    refused(Sentences::empty, "share(1)", x -> x.share(1), NONE);
    refused(Sentences::empty, "BEYOND ahead of NONE", x -> x.share(2), BEYOND);
    due("one: the difference", going().share(0), 0);
    due("one: who", going().share(1), 0);
  }

  @Asks(of = "Promise 27, Terms 4",
      says = "PURSES: the greatest less the least; who has the greatest (of several the least number).")
  static void shareOfSeveral() {
    LoudMarket x = new LoudMarket();
    x.place(0, 43, 0);
    x.place(0, 44, 0);
    x.place(0, 40, 0);
    x.place(0, 44, 0);
    due("all have 0", x.share(1), 0);
    due("no difference", x.share(0), 0);
    x.weeks(1);
    due("of two the least number", x.share(1), 1);
    due("greatest less least", x.share(0), 20 - 12);
    x = new LoudMarket();
    for (int i = 0; i < 8; i++) {
      x.place(500, 44, i == 0 ? 60 : i == 7 ? 0 : 30);
    }
    text(x, 1, "s");
    x.weeks(1);
    due("the last", x.share(1), 7);
    due("PURSES below 0", x.share(0), 60);
    x = new LoudMarket();
    x.place(0, 43, 0);
    x.place(0, 0, 0);
    x.place(0, 44, 0);
    x.weeks(1);
    due("greatest of the last, least of the second", x.share(0), 20 - 4);
    x = with(500, 44, 9);
    x.place(500, 44, 8);
    x.set(0, 5, 0);
    x.set(1, 5, 0);
    x.weeks(1);
    due("all below 0", x.share(1), 1);
    due("all below 0", x.share(0), 1);
  }
}
