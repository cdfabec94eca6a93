// Promises 1 to 10: each sentence that names an edge of the land, of places and
// of what they shout has a test of its own.
public final class EdgesOfPlacesTest extends Sentences {
  public static void main(String[] args) throws Exception {
    run(EdgesOfPlacesTest.class);
  }

  /** What a PLACE shouts, THE MARKET being in 44. */
  private static int shout(int km, int cell, int voice, int hoarse) {
    LoudMarket x = with(km, cell, voice);
    x.set(0, 4, hoarse);
    return x.placeIs(0, 8);
  }

  private static int told(String text) {
    LoudMarket x = with(500, 47, 60);
    due("text " + text, text(x, 0, text), 1);
    return x.placeIs(0, 8);
  }

  // ---- promise 1

  @Asks(of = "Promise 1", says = "All as at first; no PLACES.")
  static void noPlacesAtFirst() {
    LoudMarket x = new LoudMarket();
    due("count(0)", x.count(0), 0);
    due("placeIs(0, 0)", x.placeIs(0, 0), BEYOND);
    due("the first that comes", x.place(0, 0, 0), 0);
  }

  @Asks(of = "Promise 1, Terms 1", says = "each is GROUND (0; all at first)")
  static void allIsGroundAtFirst() {
    LoudMarket x = new LoudMarket();
    due("rivers", x.count(3), 0);
    for (int cell = 0; cell < 80; cell++) {
      due("ground of " + cell, x.ground(cell, 0), 0);
    }
  }

  @Asks(of = "Promise 1, Terms 1", says = "THE MARKET stands in a CELL (44 at first).")
  static void theMarketAtFirst() {
    due("count(1)", new LoudMarket().count(1), 44);
    due("stand(0)", new LoudMarket().stand(0), 44);
  }

  @Asks(of = "Promise 1, Terms 1", says = "HOARSE (0 .. 99; 0 at first)")
  static void noPlaceIsHoarseAtFirst() {
    due("placeIs(0, 4)", with(199, 47, 99).placeIs(0, 4), 0);
  }

  @Asks(of = "Promise 1, Terms 1", says = "how rich THE MARKET makes it; 20 at first")
  static void goodAtFirst() {
    due("placeIs(0, 5)", with(199, 47, 99).placeIs(0, 5), 20);
  }

  @Asks(of = "Promise 1, Terms 1",
      says = "PURSE (held within -999999 .. 999999; 0 at first), HUSHED (1) or not (0; at first).")
  static void purseAndHushedAtFirst() {
    LoudMarket x = with(199, 47, 99);
    due("PURSE", x.placeIs(0, 6), 0);
    due("HUSHED", x.placeIs(0, 7), 0);
  }

  @Asks(of = "Promise 1, Terms 3", says = "1 REST (0 .. 99 off each HOARSE a WEEK, 0 at least; 3 at first)")
  static void theLawAtFirst() {
    due("rule(1, 0)", new LoudMarket().rule(1, 0), 3);
    due("rule(0, 0)", new LoudMarket().rule(0, 0), 0);
    due("rule(2, 0)", new LoudMarket().rule(2, 0), 0);
  }

  @Asks(of = "Promise 1, Terms 3", says = "z is told (1 at first)")
  static void zAtFirst() {
    due("count(7)", new LoudMarket().count(7), 1);
    due("seed(0)", new LoudMarket().seed(0), 1);
  }

  // ---- promise 2

  @Asks(of = "Promise 2", says = "A CELL becomes GROUND (0), RIVER (1), HILL (2): what it was.")
  static void eachGround() {
    LoudMarket x = new LoudMarket();
    for (int cell : new int[] {0, 9, 70, 79}) {
      due("RIVER in " + cell, x.ground(cell, 1), 0);
      due("HILL in " + cell, x.ground(cell, 2), 1);
      due("HILL again in " + cell, x.ground(cell, 2), 2);
      due("GROUND in " + cell, x.ground(cell, 0), 2);
      due("as it is in " + cell, x.ground(cell, 0), 0);
    }
  }

  @Asks(of = "Promise 2", says = "BEYOND: CELL 0 .. 79.")
  static void groundBeyondTheLand() {
    due("the first CELL", new LoudMarket().ground(0, 2), 0);
    due("the last CELL", new LoudMarket().ground(79, 2), 0);
    refused("ground(-1, 1)", x -> x.ground(-1, 1), BEYOND);
    refused("ground(80, 1)", x -> x.ground(80, 1), BEYOND);
    refused("ground(MIN, 0)", x -> x.ground(MIN, 0), BEYOND);
    refused("ground(MAX, 0)", x -> x.ground(MAX, 0), BEYOND);
  }

  @Asks(of = "Promise 2, Terms 1",
      says = "RIVER (1: THE MARKET can't stand there) or HILL (2).")
  static void noOtherGround() {
    refused("ground(5, -1)", x -> x.ground(5, -1), BEYOND);
    refused("ground(5, 3)", x -> x.ground(5, 3), BEYOND);
    refused("ground(5, MAX)", x -> x.ground(5, MAX), BEYOND);
    refused("BEYOND ahead of STATE", x -> x.ground(x.count(1), 3), BEYOND);
  }

  @Asks(of = "Promise 2", says = "STATE: THE MARKET stands there, and it would be RIVER.")
  static void noRiverUnderTheMarket() {
    refused("ground(THE MARKET's, 1)", x -> x.ground(x.count(1), 1), STATE);
    LoudMarket x = new LoudMarket();
    due("HILL under it", x.ground(44, 2), 0);
    due("RIVER under it", x.ground(44, 1), STATE);
    due("GROUND under it", x.ground(44, 0), 2);
    x.stand(45);
    due("where it stood", x.ground(44, 1), 0);
  }

  // ---- promise 3

  @Asks(of = "Promise 3", says = "THE MARKET stands in a CELL: where it stood. BEYOND.")
  static void standBeyondTheLand() {
    LoudMarket x = new LoudMarket();
    due("the first CELL", x.stand(0), 44);
    due("the last CELL", x.stand(79), 0);
    due("where it is", x.stand(79), 79);
    refused("stand(-1)", y -> y.stand(-1), BEYOND);
    refused("stand(80)", y -> y.stand(80), BEYOND);
    refused("stand(MIN)", y -> y.stand(MIN), BEYOND);
    refused("stand(MAX)", y -> y.stand(MAX), BEYOND);
  }

  @Asks(of = "Promise 3", says = "STATE: it is RIVER.")
  static void noStandInARiver() {
    refused("stand(3), RIVER", x -> x.stand(3), STATE);
    LoudMarket x = new LoudMarket();
    x.ground(45, 2);
    due("HILL", x.stand(45), 44);
  }

  // ---- promise 4

  @Asks(of = "Promise 4", says = "THE LAW (what 0 .. 2) becomes v: what it was. BEYOND.")
  static void noOtherLaw() {
    refused("rule(-1, 0)", x -> x.rule(-1, 0), BEYOND);
    refused("rule(3, 0)", x -> x.rule(3, 0), BEYOND);
    refused("rule(MIN, 0)", x -> x.rule(MIN, 0), BEYOND);
    refused("rule(MAX, 0)", x -> x.rule(MAX, 0), BEYOND);
  }

  @Asks(of = "Promise 4, Terms 3", says = "or none shouts; 1: BY PULLS)")
  static void loudestOrByPulls() {
    LoudMarket x = new LoudMarket();
    due("rule(0, 1)", x.rule(0, 1), 0);
    due("rule(0, 0)", x.rule(0, 0), 1);
    refused("rule(0, -1)", y -> y.rule(0, -1), BEYOND);
    refused("rule(0, 2)", y -> y.rule(0, 2), BEYOND);
  }

  @Asks(of = "Promise 4, Terms 3", says = "1 REST (0 .. 99")
  static void restWithin() {
    LoudMarket x = new LoudMarket();
    due("rule(1, 99)", x.rule(1, 99), 3);
    due("rule(1, 0)", x.rule(1, 0), 99);
    due("rule(1, 0) again", x.rule(1, 0), 0);
    refused("rule(1, -1)", y -> y.rule(1, -1), BEYOND);
    refused("rule(1, 100)", y -> y.rule(1, 100), BEYOND);
    refused("rule(1, MIN)", y -> y.rule(1, MIN), BEYOND);
  }

  @Asks(of = "Promise 4, Terms 3", says = "2 HILLS (0, or 1:")
  static void hillsOrNot() {
    LoudMarket x = new LoudMarket();
    due("rule(2, 1)", x.rule(2, 1), 0);
    due("rule(2, 0)", x.rule(2, 0), 1);
    refused("rule(2, -1)", y -> y.rule(2, -1), BEYOND);
    refused("rule(2, 2)", y -> y.rule(2, 2), BEYOND);
  }

  // ---- promise 5

  @Asks(of = "Promise 5, Terms 1",
      says = "THE LAND has CELLS of 10 columns (0 .. 9) and 8 rows (0 .. 7), told as 10 times the row and the column")
  static void cornersOfTheLand() {
    LoudMarket x = new LoudMarket();
    due("along row 0", x.far(0, 9), 9);
    due("along column 0", x.far(0, 70), 7);
    due("from corner to corner", x.far(0, 79), 16);
    due("from the other corners", x.far(9, 70), 16);
    due("numbers side by side, rows apart", x.far(9, 10), 10);
  }

  @Asks(of = "Promise 5, Terms 1",
      says = "FAR of two CELLS: the difference of their columns and that of their rows, both without sign, together.")
  static void farWithoutSign() {
    LoudMarket x = new LoudMarket();
    due("no way", x.far(44, 44), 0);
    due("down and right", x.far(22, 45), 5);
    due("down and left", x.far(25, 42), 5);
    due("up and right", x.far(42, 25), 5);
    due("up and left", x.far(45, 22), 5);
  }

  @Asks(of = "Promise 5", says = "FAR of two CELLS. BEYOND.")
  static void farBeyondTheLand() {
    refused("far(-1, 0)", x -> x.far(-1, 0), BEYOND);
    refused("far(80, 0)", x -> x.far(80, 0), BEYOND);
    refused("far(0, -1)", x -> x.far(0, -1), BEYOND);
    refused("far(0, 80)", x -> x.far(0, 80), BEYOND);
    refused("far(MIN, MAX)", x -> x.far(MIN, MAX), BEYOND);
  }

  // ---- promise 6

  @Asks(of = "Promise 6, Terms 1", says = "PLACES 0, 1, .. (at most 8)")
  static void eightPlaces() {
    LoudMarket x = new LoudMarket();
    for (int i = 0; i < 8; i++) {
      due("place " + i, x.place(100 + i, 8 * i, 9 * i), i);
      due("how many", x.count(0), i + 1);
    }
    due("a ninth", x.place(0, 0, 0), FULL);
    for (int i = 0; i < 8; i++) {
      due("m of " + i, x.placeIs(i, 1), i);
    }
  }

  @Asks(of = "Promise 6", says = "A PLACE: its number. km: 100 times the KIND, and m. BEYOND.")
  static void placeBeyond() {
    LoudMarket x = new LoudMarket();
    due("the least", x.place(0, 0, 0), 0);
    due("the greatest", x.place(699, 79, 99), 1);
    due("its KIND", x.placeIs(1, 0), 6);
    due("its m", x.placeIs(1, 1), 99);
    due("its CELL", x.placeIs(1, 2), 79);
    due("its VOICE", x.placeIs(1, 3), 99);
    due("m 99 of a KIND below", x.place(199, 0, 0), 2);
    due("its KIND", x.placeIs(2, 0), 1);
    refused("place(-1, 0, 0)", y -> y.place(-1, 0, 0), BEYOND);
    refused("place(700, 0, 0)", y -> y.place(700, 0, 0), BEYOND);
    refused("place(MIN, 0, 0)", y -> y.place(MIN, 0, 0), BEYOND);
    refused("place(100, -1, 0)", y -> y.place(100, -1, 0), BEYOND);
    refused("place(100, 80, 0)", y -> y.place(100, 80, 0), BEYOND);
    refused("place(100, 0, -1)", y -> y.place(100, 0, -1), BEYOND);
    refused("place(100, 0, 100)", y -> y.place(100, 0, 100), BEYOND);
  }

  @Asks(of = "Promise 6", says = "BEYOND. FULL.")
  static void placeFull() {
    refused(Sentences::crowded, "a ninth", x -> x.place(0, 0, 0), FULL);
    refused(Sentences::crowded, "BEYOND ahead of FULL", x -> x.place(700, 0, 0), BEYOND);
    refused(Sentences::crowded, "BEYOND ahead of FULL", x -> x.place(0, 80, 0), BEYOND);
    refused(Sentences::crowded, "BEYOND ahead of FULL", x -> x.place(0, 0, 100), BEYOND);
  }

  @Asks(of = "Promise 6, Terms 1", says = "each in a CELL (any)")
  static void placesInAnyCell() {
    LoudMarket x = new LoudMarket();
    x.ground(3, 1);
    due("in a RIVER", x.place(0, 3, 0), 0);
    due("where one is", x.place(0, 3, 0), 1);
    due("in THE MARKET's", x.place(0, 44, 0), 2);
    due("RIVER under a PLACE", x.ground(3, 0), 1);
    due("RIVER under a PLACE again", x.ground(3, 1), 0);
  }

  // ---- promise 7

  @Asks(of = "Promise 7",
      says = "Of a PLACE: 0 KIND, 1 m, 2 CELL, 3 VOICE, 4 HOARSE, 5 GOOD, 6 PURSE, 7 HUSHED, 8 SHOUT, 9 WORTH of THE MARKET where it is. BEYOND.")
  static void placeIsBeyond() {
    int[] is = {1, 23, 46, 31, 0, 20, 0, 0, 31, 16};
    for (int what = 0; what < 10; what++) {
      due("placeIs(0, " + what + ")", with(123, 46, 31).placeIs(0, what), is[what]);
    }
    refused("placeIs(-1, 0)", x -> x.placeIs(-1, 0), BEYOND);
    refused("placeIs(7, 0)", x -> x.placeIs(7, 0), BEYOND);
    refused("placeIs(0, -1)", x -> x.placeIs(0, -1), BEYOND);
    refused("placeIs(0, 10)", x -> x.placeIs(0, 10), BEYOND);
    refused("placeIs(MAX, MIN)", x -> x.placeIs(MAX, MIN), BEYOND);
    refused(Sentences::crowded, "placeIs(8, 0)", x -> x.placeIs(8, 0), BEYOND);
    due("no PLACE", new LoudMarket().placeIs(0, 8), BEYOND);
  }

  @Asks(of = "Promise 7, Terms 3",
      says = "SHOUT of a PLACE (held within 0 .. 99 at the end; 0 if it is HUSHED)")
  static void shoutHeld() {
    due("below", told("0-1"), 0);
    due("at the lower end", told("0"), 0);
    due("at the upper end", told("99"), 99);
    due("above", told("100"), 99);
    due("as little as can be", told("8*4096*16*4096"), 0);
    due("as much as can be", told("8*4096*16*4096-1"), 99);
    LoudMarket x = new LoudMarket();
    x.place(350, 47, 0);
    x.place(350, 46, 60);
    x.set(0, 4, 20);
    due("held at the end alone, below", x.placeIs(0, 8), 30);
    due("held at the end alone, above", x.placeIs(1, 8), 99);
  }

  @Asks(of = "Promise 7, Terms 3", says = "0 if it is HUSHED")
  static void hushedShoutsNothing() {
    for (int kind = 0; kind < 7; kind++) {
      LoudMarket x = with(100 * kind, 46, 6);
      due("KIND " + kind, x.placeIs(0, 8), kind == 0 ? 0 : 6);
      x.set(0, 7, 1);
      due("KIND " + kind + ", HUSHED", x.placeIs(0, 8), 0);
    }
    LoudMarket x = with(500, 46, 6);
    x.set(0, 7, 1);
    text(x, 0, "5");
    due("HUSHED by a TEXT", x.placeIs(0, 8), 0);
  }

  @Asks(of = "Promise 7, Terms 3", says = "PLACE: 0.")
  static void aPlaceShoutsNothing() {
    due("VOICE 99", shout(99, 47, 99, 0), 0);
  }

  @Asks(of = "Promise 7, Terms 3", says = "LOUD: VOICE less HOARSE, 0 if FAR of THE MARKET is 0.")
  static void loud() {
    due("1 FAR", shout(100, 45, 60, 9), 51);
    due("1 FAR up", shout(100, 34, 60, 9), 51);
    due("16 FAR at most", shout(100, 9, 60, 9), 51);
    due("0 FAR", shout(100, 44, 60, 9), 0);
    due("as HOARSE as VOICE", shout(100, 45, 60, 60), 0);
    due("1 less HOARSE", shout(100, 45, 60, 59), 1);
    due("more HOARSE", shout(100, 45, 0, 99), 0);
    due("all VOICE", shout(100, 45, 99, 0), 99);
  }

  @Asks(of = "Promise 7, Terms 3",
      says = "HOLD: VOICE less HOARSE, if FAR is 3 or less, else 0 (0 FAR, too).")
  static void hold() {
    due("3 FAR", shout(200, 47, 60, 9), 51);
    due("3 FAR round a corner", shout(200, 33, 60, 9) + shout(200, 65, 60, 9), 102);
    due("4 FAR", shout(200, 48, 60, 9), 0);
    due("4 FAR round a corner", shout(200, 66, 60, 9), 0);
    due("0 FAR, too", shout(200, 44, 60, 9), 51);
    due("more HOARSE", shout(200, 44, 9, 60), 0);
  }

  @Asks(of = "Promise 7, Terms 3",
      says = "LEAGUE: as LOUD, and m for each other LEAGUE (not HUSHED) whose CELL is 4 or less FAR from its own.")
  static void league() {
    LoudMarket x = new LoudMarket();
    x.place(307, 40, 20);
    due("alone", x.placeIs(0, 8), 20);
    x.place(300, 31, 0);
    due("one 2 FAR", x.placeIs(0, 8), 27);
    x.place(300, 80 - 18, 0);
    due("one 4 FAR", x.placeIs(0, 8), 34);
    x.place(300, 45, 0);
    due("one 5 FAR", x.placeIs(0, 8), 34);
    x.place(300, 40, 0);
    due("one in its own CELL", x.placeIs(0, 8), 41);
    x.place(200, 40, 0);
    x.place(100, 40, 0);
    due("others that are no LEAGUE", x.placeIs(0, 8), 41);
    x.set(1, 7, 1);
    due("one is HUSHED", x.placeIs(0, 8), 34);
    x.set(0, 2, 44);
    due("as LOUD at 0 FAR: 0, and m for each of three", x.placeIs(0, 8), 21);
  }

  @Asks(of = "Promise 7, Terms 3",
      says = "LATE: as LOUD in WEEKS that are m more than a multiple of 4 (m's rest by 4), else 0.")
  static void late() {
    for (int m : new int[] {0, 1, 2, 3, 4, 7, 98, 99}) {
      LoudMarket x = new LoudMarket();
      for (int week = 0; week < 9; week++) {
        x.place(400 + m, 40, 20);
        due("m " + m + " in WEEK " + week, x.thenPlace(week, 0, 8), week % 4 == m % 4 ? 20 : 0);
        x = new LoudMarket();
      }
    }
    due("as LOUD at 0 FAR", shout(400, 44, 20, 0), 0);
    due("as LOUD, HOARSE", shout(404, 45, 20, 30), 0);
  }

  @Asks(of = "Promise 7, Terms 2", says = "without a TEXT v - h.")
  static void toldNothing() {
    due("v - h", shout(500, 47, 60, 9), 51);
    due("at 0 FAR, too", shout(500, 44, 60, 9), 51);
    due("below 0", shout(500, 44, 9, 60), 0);
  }

  private static LoudMarket ahead(int cell, int voice, String cost) {
    LoudMarket x = with(600, cell, voice);
    text(x, 1, cost);
    return x;
  }

  @Asks(of = "Promise 7, Terms 3",
      says = "is more than where it is by COST of as much as LOUD (held within 0 .. 99), or more; else 0.")
  static void aheadByCost() {
    due("more by COST", ahead(47, 9, "2").placeIs(0, 8), 9);
    due("more by more than COST", ahead(47, 9, "1").placeIs(0, 8), 9);
    due("more by less than COST", ahead(47, 9, "3").placeIs(0, 8), 0);
    due("COST of as much as LOUD", ahead(47, 9, "s-7").placeIs(0, 8), 9);
    due("COST of more than that", ahead(47, 10, "s-7").placeIs(0, 8), 0);
    due("COST without a TEXT, cut", shout(600, 47, 8, 0), 8);
    due("COST without a TEXT, more", shout(600, 47, 9, 0), 0);
    LoudMarket x = ahead(47, 9, "h");
    x.set(0, 4, 2);
    due("COST of its HOARSE", x.placeIs(0, 8), 7);
    x.set(0, 4, 3);
    due("COST of its HOARSE, more", x.placeIs(0, 8), 0);
    x = ahead(47, 9, "g-18");
    due("COST of its GOOD", x.placeIs(0, 8), 9);
    x.set(0, 5, 21);
    due("COST of its GOOD, more", x.placeIs(0, 8), 0);
  }

  @Asks(of = "Promise 7, Terms 3",
      says = "AHEAD: as LOUD, if WORTH where THE MARKET would be, going for it (below)")
  static void aheadByWorth() {
    LoudMarket x = ahead(47, 9, "1");
    x.ground(45, 1);
    due("it would stay for a RIVER", x.placeIs(0, 8), 0);
    text(x, 1, "0");
    due("it would stay, that costs nothing", x.placeIs(0, 8), 9);
    x.set(0, 2, 57);
    text(x, 1, "2");
    due("it would go the other way", x.placeIs(0, 8), 9);
    x = ahead(45, 9, "2");
    due("it would come to it", x.placeIs(0, 8), 9);
    x.set(0, 1, 50);
    due("it would be too loud there", x.placeIs(0, 8), 0);
    x = ahead(44, 9, "0");
    due("as LOUD at 0 FAR", x.placeIs(0, 8), 0);
    x = ahead(47, 9, "0");
    x.set(0, 5, 4);
    due("WORTH is 0 here and there", x.placeIs(0, 8), 9);
    text(x, 1, "1");
    due("WORTH is 0 here and there, it costs 1", x.placeIs(0, 8), 0);
    x.set(0, 5, 5);
    due("WORTH 0 here, 1 there", x.placeIs(0, 8), 9);
  }

  // ---- promise 8

  @Asks(of = "Promise 8", says = "A PLACE as one of a KIND: m. BEYOND.")
  static void asBeyond() {
    due("m 0", with(600, 0, 0).as(0, 6), 0);
    due("m 99", with(699, 0, 0).as(0, 0), 99);
    refused("as(-1, 0)", x -> x.as(-1, 0), BEYOND);
    refused("as(7, 0)", x -> x.as(7, 0), BEYOND);
    refused("as(0, -1)", x -> x.as(0, -1), BEYOND);
    refused("as(0, 7)", x -> x.as(0, 7), BEYOND);
    refused("as(MIN, MAX)", x -> x.as(MIN, MAX), BEYOND);
    refused("BEYOND ahead of KIND", x -> x.as(7, 2), BEYOND);
  }

  @Asks(of = "Promise 8", says = "KIND: it is not of that KIND, nor of one under it.")
  static void asAnotherKind() {
    int[] above = {-1, 0, 1, 1, 1, 0, 1};
    for (int kind = 0; kind < 7; kind++) {
      for (int asked = 0; asked < 7; asked++) {
        boolean is = kind == asked || asked == 0 || asked == above[kind];
        due(kind + " as " + asked, with(100 * kind + 23, 0, 0).as(0, asked), is ? 23 : KIND);
      }
    }
    refused("as(0, 2)", x -> x.as(0, 2), KIND);
    refused("as(6, 1)", x -> x.as(6, 1), KIND);
  }

  // ---- promise 9

  /** What takes 0 .. most, and nothing beyond. */
  private static void within(int what, int most) {
    LoudMarket x = with(123, 46, 31);
    int was = x.placeIs(0, what);
    due("set(0, " + what + ", " + most + ")", x.set(0, what, most), was);
    due("it is", x.placeIs(0, what), most);
    due("set(0, " + what + ", 0)", x.set(0, what, 0), most);
    due("it is", x.placeIs(0, what), 0);
    refused("set(0, " + what + ", -1)", y -> y.set(0, what, -1), BEYOND);
    refused("set(0, " + what + ", " + (most + 1) + ")", y -> y.set(0, what, most + 1), BEYOND);
    refused("set(0, " + what + ", MIN)", y -> y.set(0, what, MIN), BEYOND);
    refused("set(0, " + what + ", MAX)", y -> y.set(0, what, MAX), BEYOND);
  }

  @Asks(of = "Promise 9, Terms 1",
      says = "of KINDS: 0 PLACE, 1 LOUD under PLACE, 2 HOLD under LOUD, 3 LEAGUE under LOUD, 4 LATE under LOUD, 5 TOLD under PLACE, 6 AHEAD under LOUD")
  static void kindWithin() {
    within(0, 6);
  }

  @Asks(of = "Promise 9, Terms 1", says = "with a number m (0 .. 99)")
  static void mWithin() {
    within(1, 99);
  }

  @Asks(of = "Promise 9, Terms 1", says = "THE LAND has CELLS of 10 columns (0 .. 9) and 8 rows (0 .. 7)")
  static void cellWithin() {
    within(2, 79);
    due("in a RIVER", busy().set(0, 2, 3), 47);
  }

  @Asks(of = "Promise 9, Terms 1", says = "VOICE (0 .. 99)")
  static void voiceWithin() {
    within(3, 99);
  }

  @Asks(of = "Promise 9, Terms 1", says = "HOARSE (0 .. 99;")
  static void hoarseWithin() {
    within(4, 99);
  }

  @Asks(of = "Promise 9, Terms 1", says = "GOOD (0 .. 99;")
  static void goodWithin() {
    within(5, 99);
  }

  @Asks(of = "Promise 9, Terms 1", says = "HUSHED (1) or not (0; at first)")
  static void hushedWithin() {
    within(7, 1);
  }

  @Asks(of = "Promise 9",
      says = "KIND (what 0), m (1), CELL (2), VOICE (3), HOARSE (4), GOOD (5), HUSHED (7) of a PLACE becomes v: what it was. BEYOND.")
  static void setBeyond() {
    refused("set(0, 6, 0), PURSE", x -> x.set(0, 6, 0), BEYOND);
    refused("set(0, 6, 1), PURSE", x -> x.set(0, 6, 1), BEYOND);
    refused("set(0, 6, -1), PURSE", x -> x.set(0, 6, -1), BEYOND);
    refused("set(0, -1, 0)", x -> x.set(0, -1, 0), BEYOND);
    refused("set(0, 8, 0)", x -> x.set(0, 8, 0), BEYOND);
    refused("set(0, 9, 0)", x -> x.set(0, 9, 0), BEYOND);
    refused("set(0, MAX, 0)", x -> x.set(0, MAX, 0), BEYOND);
    refused("set(-1, 1, 0)", x -> x.set(-1, 1, 0), BEYOND);
    refused("set(7, 1, 0)", x -> x.set(7, 1, 0), BEYOND);
    refused("set(MIN, 1, 0)", x -> x.set(MIN, 1, 0), BEYOND);
  }

  // ---- promise 10

  @Asks(of = "Promise 10", says = "WORTH of THE MARKET in a CELL to a PLACE. BEYOND.")
  static void worthBeyond() {
    due("the first CELL", with(0, 4, 0).worth(0, 0), 12);
    due("the last CELL", with(0, 77, 0).worth(0, 79), 16);
    refused("worth(0, -1)", x -> x.worth(0, -1), BEYOND);
    refused("worth(0, 80)", x -> x.worth(0, 80), BEYOND);
    refused("worth(-1, 0)", x -> x.worth(-1, 0), BEYOND);
    refused("worth(7, 0)", x -> x.worth(7, 0), BEYOND);
    refused("worth(MAX, MIN)", x -> x.worth(MAX, MIN), BEYOND);
  }

  @Asks(of = "Promise 10, Terms 1",
      says = "WORTH of THE MARKET in a CELL to a PLACE: GOOD less twice FAR of both, 0 at least;")
  static void worthAtLeast() {
    LoudMarket x = with(0, 0, 0);
    due("GOOD 20, 9 FAR", x.worth(0, 9), 2);
    due("GOOD 20, 10 FAR", x.worth(0, 19), 0);
    due("GOOD 20, 11 FAR", x.worth(0, 29), 0);
    x.set(0, 5, 21);
    due("GOOD 21, 10 FAR", x.worth(0, 19), 1);
    due("GOOD 21, 11 FAR", x.worth(0, 29), 0);
    x.set(0, 5, 0);
    due("GOOD 0, 0 FAR", x.worth(0, 0), 0);
    due("GOOD 0, 16 FAR", x.worth(0, 79), 0);
    x.set(0, 5, 99);
    due("GOOD 99, 0 FAR", x.worth(0, 0), 99);
    due("GOOD 99, 16 FAR", x.worth(0, 79), 67);
    x.ground(9, 1);
    due("in a RIVER, too", x.worth(0, 9), 81);
  }

  @Asks(of = "Promise 10, Terms 1",
      says = "0 if the PLACE stands in that CELL itself and its m is 50 or more (it is too loud there).")
  static void tooLoudThere() {
    LoudMarket x = with(49, 44, 0);
    due("m 49", x.worth(0, 44), 20);
    due("m 49, where it is", x.placeIs(0, 9), 20);
    x.set(0, 1, 50);
    due("m 50", x.worth(0, 44), 0);
    due("m 50, where it is", x.placeIs(0, 9), 0);
    due("m 50, beside it", x.worth(0, 45), 18);
    x.set(0, 1, 99);
    due("m 99", x.worth(0, 44), 0);
  }
}
