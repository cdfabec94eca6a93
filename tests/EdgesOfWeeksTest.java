// Promises 11 to 17: each sentence that names an edge of texts, of weeks and of
// how the market and houses go has a test of its own.
public final class EdgesOfWeeksTest extends Sentences {
  // As little as an int can be, as a part of a TEXT.
  private static final String LEAST = "8*4096*16*4096";

  public static void main(String[] args) throws Exception {
    run(EdgesOfWeeksTest.class);
  }

  /** What a TOLD place shouts by a TEXT: f 3, v 60, h 8, g 20, w 0. */
  private static void value(String text, int want) {
    LoudMarket x = with(500, 47, 60);
    x.set(0, 4, 8);
    due("text " + text, text(x, 0, text), 1);
    due(text, x.placeIs(0, 8), want);
  }

  private static void fault(int use, String text, int at) {
    LoudMarket x = new LoudMarket();
    due("text(" + use + ") of " + text, text(x, use, text), -10 - at);
  }

  private static void fault(String text, int at) {
    fault(0, text, at);
    fault(1, text, at);
  }

  /** Up to eight bytes, the first being the lowest. */
  private static long word(String bytes) {
    long word = 0;
    for (int i = bytes.length() - 1; i >= 0; i--) {
      word = word << 8 | bytes.charAt(i);
    }
    return word;
  }

  private static String times(String part, int n) {
    return part.repeat(n);
  }

  // ---- promise 11

  @Asks(of = "Promise 11", says = "The n lowest bytes (1 .. 8) of a word, the lowest first, come to THE TAPE: how many there are.")
  static void bytesOfAWord() {
    LoudMarket x = with(500, 47, 60);
    due("1 of 8", x.feed(word("6+123456"), 1), 1);
    due("the lowest", x.text(0), 1);
    due("6", x.placeIs(0, 8), 6);
    due("8 of 8", x.feed(word("71+(3-2)"), 8), 8);
    due("8 more", x.feed(word("*2+0+0-1"), 8), 16);
    due("2 more", x.feed(word("-2222222"), 2), 18);
    due("the lowest first", x.text(0), 1);
    due("70", x.placeIs(0, 8), 70);
    due("a word below 0", x.feed(-256L + '7', 1), 1);
    due("its lowest", x.text(0), 1);
    due("7", x.placeIs(0, 8), 7);
    due("8 bytes of 255", x.feed(-1L, 8), 8);
    due("their TEXT", x.text(0), -10);
  }

  @Asks(of = "Promise 11", says = "how many there are. BEYOND. FULL.")
  static void feedBeyond() {
    refused("feed(49, 0)", x -> x.feed(49, 0), BEYOND);
    refused("feed(49, 9)", x -> x.feed(49, 9), BEYOND);
    refused("feed(49, -1)", x -> x.feed(49, -1), BEYOND);
    refused("feed(49, MIN)", x -> x.feed(49, MIN), BEYOND);
    refused("feed(49, MAX)", x -> x.feed(49, MAX), BEYOND);
  }

  private static LoudMarket taped(String text) {
    LoudMarket x = busy();
    x.text(1);
    feed(x, text);
    return x;
  }

  @Asks(of = "Promise 11, Terms 2", says = "THE TAPE (bytes, at most 60)")
  static void feedFull() {
    String sum = "v" + times("+1", 29);
    due("60 bytes", taped(sum + "2").count(4), 60);
    due("the last 8", taped(sum.substring(0, 52)).feed(0, 8), 60);
    refused(() -> taped(sum + "2"), "a 61st", x -> x.feed('1', 1), FULL);
    refused(() -> taped(sum), "2 of which 1 has room", x -> x.feed('1', 2), FULL);
    refused(() -> taped(sum.substring(0, 53)), "8 of which 7 have room", x -> x.feed('1', 8), FULL);
    refused(() -> taped(sum + "2"), "BEYOND ahead of FULL", x -> x.feed('1', 9), BEYOND);
    LoudMarket x = taped(sum + "2");
    x.set(4, 3, 8);
    due("a TEXT of 60", x.text(0), 1);
    due("its value", x.placeIs(4, 8), 8 + 28 + 12);
    due("room again", x.feed('1', 1), 1);
  }

  // ---- promise 12

  @Asks(of = "Promise 12", says = "THE TAPE, which is empty then, is the TEXT of a USE (0, 1), in place of one ahead: 1.")
  static void textInPlaceOfAnother() {
    LoudMarket x = with(500, 47, 60);
    due("CALL", text(x, 0, "7"), 1);
    due("THE TAPE", x.count(4), 0);
    due("CALL", x.placeIs(0, 8), 7);
    due("in place of it", text(x, 0, "8"), 1);
    due("CALL", x.placeIs(0, 8), 8);
    due("COST", text(x, 1, "5"), 1);
    due("CALL is not COST", x.placeIs(0, 8), 8);
    due("COST is not CALL", x.thenPlace(1, 0, 6), 16 - 5);
  }

  @Asks(of = "Promise 12", says = "BEYOND (THE TAPE stays).")
  static void textBeyond() {
    refused("text(-1)", x -> x.text(-1), BEYOND);
    refused("text(2)", x -> x.text(2), BEYOND);
    refused("text(MIN)", x -> x.text(MIN), BEYOND);
    refused("text(MAX)", x -> x.text(MAX), BEYOND);
    LoudMarket x = new LoudMarket();
    due("with an empty TAPE", x.text(2), BEYOND);
    feed(x, "7");
    x.text(2);
    due("THE TAPE stays", x.count(4), 1);
  }

  @Asks(of = "Promise 12", says = "-10 less the FAULT (no ERROR; the one ahead stays; THE TAPE is empty, too).")
  static void textWithAFault() {
    LoudMarket x = with(500, 47, 60);
    text(x, 0, "7");
    text(x, 1, "5");
    due("CALL", text(x, 0, "8+"), -12);
    due("THE TAPE", x.count(4), 0);
    due("the CALL ahead", x.placeIs(0, 8), 7);
    due("COST", text(x, 1, "v"), -10);
    due("the COST ahead", x.thenPlace(1, 0, 6), 16 - 5);
    due("an empty TAPE", x.text(0), -10);
    due("the CALL ahead", x.placeIs(0, 8), 7);
    for (int k = 1; k <= 6; k++) {
      due("no ERROR " + k, x.told(k), 0);
    }
  }

  @Asks(of = "Promise 12, Terms 2", says = "how many there are, if it ends too early.")
  static void textEndsTooEarly() {
    fault("", 0);
    fault("1+", 2);
    fault("(", 1);
    fault("(1", 2);
    fault("(((((1))))", 10);
    fault("!", 1);
    fault("!!!!!", 5);
    fault("g<", 2);
    fault(times("1+", 30), 60);
    fault("(" + times("1", 4) + times("+1", 27) + "1", 60);
  }

  @Asks(of = "Promise 12, Terms 2", says = "FAULT: the place of the first byte with which no TEXT goes on;")
  static void faultOfTheFirstByte() {
    fault("+1", 0);
    fault(")", 0);
    fault("1)", 1);
    fault("()", 1);
    fault("1!1", 1);
    fault("1(", 1);
    fault("gh", 1);
    fault("g1", 1);
    fault("1g", 1);
    fault("1++1", 2);
    fault("1|&1", 2);
    fault("(1))", 3);
    fault("x+)", 0);
    fault(times("1+", 29) + "1x", 59);
    fault("1\u0000", 1);
    fault("\u0000", 0);
    fault("\u00ff", 0);
    fault("1\u00ab", 1);
    fault("G", 0);
  }

  @Asks(of = "Promise 12, Terms 2", says = "B: S, or S < S, S = S, S > S.")
  static void oneComparison() {
    value("1<2", 1);
    value("(1<2)<3", 1);
    value("1<2&2<3|3<4", 1);
    fault("1<2<3", 3);
    fault("1=2>3", 3);
    fault("1>2+3=4", 5);
    fault("1<=2", 2);
    fault("(1<2=3)", 4);
    fault("1|1<2<3", 5);
    fault("1<2&1<2<3", 7);
  }

  @Asks(of = "Promise 12, Terms 2", says = "Q: a NUMBER of 1 to 4 digits, a NAME, ! Q, ( T ).")
  static void numbersOfFourDigits() {
    value("7", 7);
    value("0", 0);
    value("9999-9950", 49);
    value("0007", 7);
    value("0000", 0);
    fault("12345", 4);
    fault("00001", 4);
    fault("1+99999", 6);
    fault("(12345)", 5);
    fault("!12345", 5);
  }

  @Asks(of = "Promise 12, Terms 2", says = "No blanks.")
  static void noBlanks() {
    fault(" 1", 0);
    fault("1 ", 1);
    fault("1 +1", 1);
    fault("1+ 1", 2);
    fault("1\n", 1);
    fault("( 1)", 1);
  }

  @Asks(of = "Promise 12, Terms 2", says = "At most 5 of ! and ( are open at once.")
  static void fiveOpen() {
    value("(((((7)))))", 7);
    value("!!!!!7", 0);
    value("!(!(!7))", 0);
    value("!!(((7)))+3", 4);
    value("!((!(7)))", 1);
    value("(((((7)))))+(((((8)))))+!!!!!0", 16);
    value("!1+!1+!1+!1+!1+!1+!0", 1);
    value("(((((1))+((2))))+(((3))))", 6);
    fault("((((((7))))))", 5);
    fault("!!!!!!7", 5);
    fault("!(!(!(7)))", 5);
    fault("(((((!7)))))", 5);
    fault("!!!!!(7)", 5);
    fault("((((1+!!7))))", 7);
  }

  @Asks(of = "Promise 12, Terms 2", says = "Ints that wrap;")
  static void textsWrap() {
    value(LEAST + "<0", 1);
    value(LEAST + "-1>0", 1);
    value("0-" + LEAST + "=" + LEAST, 1);
    value(LEAST + "-1+1=" + LEAST, 1);
    value(LEAST + "+" + LEAST + "+5", 5);
    value("9999*9999*43=4172*1000+747", 1);
  }

  @Asks(of = "Promise 12, Terms 2", says = "/ cut, % the rest that it leaves, both by 0 are 0;")
  static void quotientsOfTexts() {
    value("7/0", 0);
    value("7%0", 0);
    value("0/0+3", 3);
    value("(0-7)/0+3", 3);
    value("(0-7)%0+3", 3);
    value("7/2", 3);
    value("7%4", 3);
    value("(0-7)/2+9", 6);
    value("7/(0-2)+9", 6);
    value("(0-7)/(0-2)", 3);
    value("(0-7)%4+9", 6);
    value("7%(0-4)", 3);
    value(LEAST + "/(0-1)=" + LEAST, 1);
    value("(" + LEAST + ")%(0-1)+3", 3);
  }

  @Asks(of = "Promise 12, Terms 2", says = "| & < = > ! are 1 or 0, what is not 0 being true;")
  static void truth() {
    String[] areOne = {"2|4", "0|(0-4)", "7|0", "2&4", "1<2", "2=2", "3>2", "!0", "!!7", "!!(0-7)"};
    for (String text : areOne) {
      value("(" + text + ")+5", 6);
    }
    String[] areNought = {"0|0", "2&0", "0&2", "0&0", "2<2", "3<2", "2=3", "2=1", "2>2", "2>3", "!7", "!(0-7)", "!1"};
    for (String text : areNought) {
      value("(" + text + ")+5", 5);
    }
  }

  @Asks(of = "Promise 12, Terms 2",
      says = "0 CALL of TOLD: NAMES f FAR of THE MARKET, v VOICE, h HOARSE, g GOOD, w WEEKS; without a TEXT v - h.")
  static void namesOfCall() {
    value("f", 3);
    value("v", 60);
    value("h", 8);
    value("g", 20);
    value("w+1", 1);
    fault(0, "s", 0);
    fault(0, "F", 0);
    fault(0, "x", 0);
    due("w is WEEKS so far", with(0, 0, 0).count(2), 0);
    LoudMarket x = with(500, 44, 0);
    text(x, 0, "w");
    due("w in WEEK 60", x.thenPlace(60, 0, 8), 60);
  }

  @Asks(of = "Promise 12, Terms 2", says = "1 COST of a SHOUT: s how loud, h HOARSE, g GOOD;")
  static void namesOfCost() {
    due("s, h, g", text(new LoudMarket(), 1, "s+h+g"), 1);
    fault(1, "f", 0);
    fault(1, "v", 0);
    fault(1, "w", 0);
  }

  private static int cost(String text, int voice) {
    LoudMarket x = with(500, 44, voice);
    x.set(0, 5, 0);
    due("text " + text, text(x, 1, text), 1);
    return -x.thenPlace(1, 0, 6);
  }

  @Asks(of = "Promise 12, Terms 2", says = "held within 0 .. 999; without s / 3.")
  static void costHeld() {
    due("below", cost("0-5", 9), 0);
    due("at the lower end", cost("0", 9), 0);
    due("at the upper end", cost("999", 9), 999);
    due("above", cost("1000", 9), 999);
    due("as little as can be", cost(LEAST, 9), 0);
    due("as much as can be", cost(LEAST + "-1", 9), 999);
  }

  @Asks(of = "Promise 12, Terms 2", says = "without s / 3.")
  static void costWithoutAText() {
    int[] costs = {0, 0, 0, 1, 1, 1, 2};
    for (int voice = 0; voice < costs.length; voice++) {
      LoudMarket x = with(500, 44, voice);
      x.set(0, 5, 0);
      due("SHOUT " + voice, -x.thenPlace(1, 0, 6), costs[voice]);
    }
    LoudMarket x = with(500, 44, 99);
    x.set(0, 5, 0);
    due("SHOUT 99", -x.thenPlace(1, 0, 6), 33);
  }

  // ---- promise 13

  @Asks(of = "Promise 13", says = "There is no TEXT of a USE any more: 1 if there was, else 0. BEYOND.")
  static void untellBeyond() {
    LoudMarket x = with(500, 47, 60);
    due("none at first", x.untell(0), 0);
    due("none at first", x.untell(1), 0);
    text(x, 0, "7");
    due("CALL alone", x.untell(1), 0);
    due("CALL", x.untell(0), 1);
    due("no more", x.untell(0), 0);
    due("v - h", x.placeIs(0, 8), 60);
    text(x, 1, "7");
    due("COST alone", x.untell(0), 0);
    due("COST", x.untell(1), 1);
    due("no more", x.untell(1), 0);
    due("s / 3", x.thenPlace(1, 0, 6), 16 - 20);
    text(x, 0, "0");
    due("a TEXT of 0", x.untell(0), 1);
    refused("untell(-1)", y -> y.untell(-1), BEYOND);
    refused("untell(2)", y -> y.untell(2), BEYOND);
    refused("untell(MAX)", y -> y.untell(MAX), BEYOND);
  }

  // ---- promise 14

  @Asks(of = "Promise 14", says = "n (1 .. 60) WEEKS go by: THE MARKET's CELL. BEYOND.")
  static void weeksBeyond() {
    LoudMarket x = with(100, 49, 60);
    due("1", x.weeks(1), 45);
    due("WEEKS", x.count(2), 1);
    due("60", x.weeks(60), 49);
    due("WEEKS", x.count(2), 61);
    refused("weeks(0)", y -> y.weeks(0), BEYOND);
    refused("weeks(61)", y -> y.weeks(61), BEYOND);
    refused("weeks(-1)", y -> y.weeks(-1), BEYOND);
    refused("weeks(MIN)", y -> y.weeks(MIN), BEYOND);
    refused("weeks(MAX)", y -> y.weeks(MAX), BEYOND);
    due("without PLACES", new LoudMarket().weeks(60), 44);
  }

  @Asks(of = "Promise 14", says = "STATE: WEEKS would be above 9999.")
  static void weeksAboveTheLast() {
    refused(Sentences::old, "weeks(10) in 9990", x -> x.weeks(10), STATE);
    refused(Sentences::old, "weeks(60) in 9990", x -> x.weeks(60), STATE);
    refused(Sentences::old, "BEYOND ahead of STATE", x -> x.weeks(61), BEYOND);
  }

  @Asks(of = "Promise 14, Terms 1", says = "WEEKS (so far) are 0 .. 9999.")
  static void weeksFromFirstToLast() {
    due("at first", new LoudMarket().count(2), 0);
    LoudMarket x = old();
    due("9990", x.count(2), 9990);
    due("9 more", x.weeks(9), 47);
    due("9999", x.count(2), 9999);
    due("no more", x.weeks(1), STATE);
    due("9999 still", x.count(2), 9999);
    x = old();
    for (int i = 1; i < 10; i++) {
      due("one by one", x.weeks(1), 47);
    }
    due("the tenth", x.weeks(1), STATE);
    due("those of the IMAGE", x.restore(), 0);
    due("again", x.weeks(60), 47);
  }

  @Asks(of = "Promise 14, Terms 1", says = "PURSE (held within -999999 .. 999999;")
  static void purseHeld() {
    LoudMarket x = with(500, 44, 9);
    text(x, 1, "999");
    x.set(0, 5, 0);
    x.rule(1, 99);
    for (int i = 0; i < 16; i++) {
      x.weeks(60);
    }
    x.weeks(41);
    due("1001 WEEKS", x.placeIs(0, 6), -999 * 1001);
    due("1002 WEEKS", x.thenPlace(1, 0, 6), -999999);
    due("1003 WEEKS", x.thenPlace(2, 0, 6), -999999);
    due("all", x.count(8), -999999);
    x.set(0, 5, 99);
    due("held by COST, then WORTH", x.thenPlace(1, 0, 6), -999999 + 99);
  }

  // What the only PLACE makes of THE MARKET in 44.
  private static int gone(int to, int... rivers) {
    LoudMarket x = with(100, to, 50);
    for (int river : rivers) {
      due("RIVER in " + river, x.ground(river, 1), 0);
    }
    return x.weeks(1);
  }

  @Asks(of = "Promise 14, Terms 3",
      says = "along that in which the difference is greater (along the row, the columns' difference, if both are alike);")
  static void goesAlongTheGreater() {
    due("columns' greater", gone(56), 45);
    due("columns' greater, west", gone(32), 43);
    due("rows' greater", gone(65), 54);
    due("rows' greater, north", gone(23), 34);
    due("both alike", gone(66), 45);
    due("both alike, west and north", gone(33), 43);
    due("both alike, west and south", gone(53), 43);
    due("both alike, east and north", gone(35), 45);
    due("no columns' difference", gone(54), 54);
    due("no rows' difference", gone(43), 43);
  }

  @Asks(of = "Promise 14, Terms 3", says = "if that CELL is RIVER, or there is no difference that way, along the other one;")
  static void goesTheOtherWay() {
    due("RIVER along the row", gone(66, 45), 54);
    due("RIVER along the row, columns' greater", gone(56, 45), 54);
    due("RIVER along the column, rows' greater", gone(65, 54), 45);
    due("RIVER on the far side", gone(66, 43, 34), 45);
    due("RIVER at the end", gone(46, 46), 45);
    LoudMarket x = with(100, 46, 99);
    x.ground(46, 1);
    due("it never stands in a RIVER", x.weeks(9), 45);
  }

  @Asks(of = "Promise 14, Terms 3", says = "if that is RIVER too, or there is no difference, it stays.")
  static void goesNoWay() {
    due("both RIVERS", gone(66, 45, 54), 44);
    due("RIVER, no other difference", gone(48, 45), 44);
    due("RIVER, no other difference, south", gone(74, 54), 44);
    LoudMarket x = with(500, 44, 9);
    due("it is there", x.weeks(1), 44);
    due("and shouts", x.placeIs(0, 4), 1);
  }

  @Asks(of = "Promise 14, Terms 3",
      says = "0 LOUDEST (0: it GOES FOR the PLACE with the greatest SHOUT, stays if two or more have it, or none shouts;")
  static void goesForTheLoudest() {
    LoudMarket x = new LoudMarket();
    due("no PLACES", x.weeks(1), 44);
    x.place(100, 40, 30);
    due("one", x.then(1), 43);
    x.place(100, 49, 30);
    due("two have it", x.then(1), 44);
    x.place(100, 4, 30);
    due("three have it", x.then(1), 44);
    x.place(100, 74, 31);
    due("one has more than three", x.then(1), 54);
    x.set(0, 3, 32);
    due("the first has most", x.then(1), 43);
    x.set(2, 3, 32);
    due("the first and third have it", x.then(1), 44);
    for (int place = 0; place < 4; place++) {
      x.set(place, 3, 0);
    }
    due("none shouts", x.then(1), 44);
    x.set(3, 3, 1);
    due("one shouts 1", x.then(1), 54);
  }

  @Asks(of = "Promise 14, Terms 3", says = "2 HILLS (0, or 1: from a HILL it goes in even WEEKS alone).")
  static void hills() {
    LoudMarket x = with(500, 49, 0);
    text(x, 0, "50");
    x.ground(44, 2);
    x.ground(45, 2);
    due("HILLS 0, even", x.then(1), 45);
    due("HILLS 0, odd", x.then(2), 46);
    x.rule(2, 1);
    due("even: to a HILL", x.weeks(1), 45);
    due("odd: it stays", x.weeks(1), 45);
    due("even: off it goes", x.weeks(1), 46);
    due("odd: from GROUND", x.weeks(1), 47);
    x.weeks(1);
    x.stand(45);
    x.rule(0, 1);
    due("BY PULLS, odd", x.weeks(1), 45);
    due("BY PULLS, even", x.weeks(1), 46);
    x.stand(45);
    due("a COIN WEEK, odd", x.coins(1), 45);
    due("a COIN WEEK, even", x.coins(1), 46);
  }

  private static LoudMarket pulls(int... cellsAndVoices) {
    LoudMarket x = new LoudMarket();
    x.rule(0, 1);
    for (int i = 0; i + 1 < cellsAndVoices.length; i += 2) {
      x.place(100, cellsAndVoices[i], cellsAndVoices[i + 1]);
    }
    return x;
  }

  @Asks(of = "Promise 14, Terms 3",
      says = "to the east less to the west (a PLACE pulls east by its SHOUT if its column is greater, west if it is less), south less north (rows likewise)")
  static void pullsTogether() {
    due("east less west", pulls(49, 30, 40, 29).weeks(1), 45);
    due("west more than east", pulls(49, 30, 40, 31).weeks(1), 43);
    due("south less north", pulls(74, 30, 4, 29).weeks(1), 54);
    due("north more than south", pulls(74, 30, 4, 31).weeks(1), 34);
    due("same column: no pull along the row", pulls(74, 30, 45, 29).weeks(1), 54);
    due("same row: no pull along the column", pulls(49, 29, 34, 30).weeks(1), 34);
    due("not by how FAR", pulls(49, 10, 43, 10, 34, 1).weeks(1), 34);
    LoudMarket x = pulls(49, 1);
    x.place(200, 44, 99);
    due("one in its CELL pulls nowhere", x.weeks(1), 45);
    x = pulls(26, 9, 6, 3);
    x.stand(27);
    due("from column 7 of row 2: west", x.weeks(1), 26);
    x = pulls(72, 9, 2, 7, 61, 1);
    x.stand(62);
    due("from column 2 of row 6: south", x.weeks(1), 72);
  }

  @Asks(of = "Promise 14, Terms 3",
      says = "it goes one CELL along that which is greater without sign, the columns' if both are alike, its way;")
  static void pullsAlike() {
    due("both alike, east and south", pulls(66, 20).weeks(1), 45);
    due("both alike, west and north", pulls(33, 20).weeks(1), 43);
    due("both alike, east and north", pulls(35, 20).weeks(1), 45);
    due("west greater without sign", pulls(40, 20, 74, 19).weeks(1), 43);
    due("north greater without sign", pulls(49, 19, 4, 20).weeks(1), 34);
  }

  @Asks(of = "Promise 14, Terms 3", says = "not at all if both are 0, or that CELL is RIVER.")
  static void pullsNotAtAll() {
    due("no PLACES", pulls().weeks(1), 44);
    due("none shouts", pulls(49, 0).weeks(1), 44);
    due("both 0", pulls(49, 30, 40, 30, 4, 7, 74, 7).weeks(1), 44);
    LoudMarket x = pulls(66, 20);
    x.ground(45, 1);
    due("RIVER, though not the other way", x.weeks(1), 44);
    x = pulls(74, 20, 49, 5);
    x.ground(54, 1);
    due("RIVER in the south", x.weeks(1), 44);
  }

  @Asks(of = "Promise 14, Terms 3", says = "A WEEK: all SHOUTS by what is; THE MARKET goes (or not);")
  static void shoutsByWhatIs() {
    LoudMarket x = with(100, 45, 60);
    x.place(200, 48, 10);
    due("it comes to the first", x.weeks(1), 45);
    due("which has shouted, as it was 1 FAR", x.placeIs(0, 4), 30 - 3);
    due("the second hasn't, as it was 4 FAR", x.placeIs(1, 4), 0);
  }

  @Asks(of = "Promise 14, Terms 3", says = "each that has shouted: HOARSE is half of its SHOUT more (99 at most)")
  static void hoarseAtMost() {
    int[] halves = {0, 0, 1, 1, 2};
    for (int voice = 0; voice < halves.length; voice++) {
      LoudMarket x = with(500, 47, voice);
      x.rule(1, 0);
      due("SHOUT " + voice, x.thenPlace(1, 0, 4), halves[voice]);
    }
    LoudMarket x = with(500, 47, 0);
    text(x, 0, "99");
    x.rule(1, 0);
    x.set(0, 4, 49);
    due("49 and 49", x.thenPlace(1, 0, 4), 98);
    x.set(0, 4, 50);
    due("50 and 49", x.thenPlace(1, 0, 4), 99);
    x.set(0, 4, 51);
    due("51 and 49", x.thenPlace(1, 0, 4), 99);
    x.set(0, 4, 99);
    due("99 and 49", x.thenPlace(1, 0, 4), 99);
    x.rule(1, 3);
    due("99 at most ahead of REST", x.thenPlace(1, 0, 4), 96);
  }

  @Asks(of = "Promise 14, Terms 3", says = "PURSE less by COST (of its HOARSE ahead);")
  static void costOfHoarseAhead() {
    LoudMarket x = with(500, 44, 60);
    x.set(0, 5, 0);
    x.set(0, 4, 7);
    text(x, 1, "h");
    due("7, not 33", x.thenPlace(1, 0, 6), -7);
    text(x, 1, "5");
    due("5", x.thenPlace(1, 0, 6), -5);
    x.set(0, 4, 60);
    due("none has shouted", x.thenPlace(1, 0, 6), 0);
    x.set(0, 4, 59);
    due("a SHOUT of 1", x.thenPlace(1, 0, 6), -5);
    x.set(0, 7, 1);
    due("HUSHED", x.thenPlace(1, 0, 6), 0);
  }

  @Asks(of = "Promise 14, Terms 3", says = "then PURSE of each is more by WORTH;")
  static void worthOfEach() {
    LoudMarket x = with(100, 47, 60);
    x.place(0, 43, 0);
    x.place(50, 45, 99);
    x.place(0, 0, 0);
    x.set(3, 5, 17);
    x.set(1, 7, 1);
    due("where it is behind its way", x.weeks(1), 45);
    due("one that has shouted", x.placeIs(0, 6), 16 - 20);
    due("one that is HUSHED", x.placeIs(1, 6), 16);
    due("one that is too loud", x.placeIs(2, 6), 0);
    due("one too FAR", x.placeIs(3, 6), 0);
  }

  @Asks(of = "Promise 14, Terms 3", says = "HOARSE of each less by REST; WEEKS 1 more.")
  static void restOfEach() {
    LoudMarket x = with(100, 47, 60);
    x.place(0, 43, 0);
    x.set(1, 4, 99);
    x.set(1, 7, 1);
    due("REST of one that has shouted", x.thenPlace(1, 0, 4), 27);
    due("REST of one that hasn't", x.thenPlace(1, 1, 4), 96);
    x.weeks(1);
    due("WEEKS", x.count(2), 1);
  }

  @Asks(of = "Promise 14, Terms 3", says = "(0 .. 99 off each HOARSE a WEEK, 0 at least;")
  static void restToNothing() {
    LoudMarket x = with(0, 47, 0);
    int[] hoarse = {0, 1, 2, 3, 4, 99};
    int[] behind = {0, 0, 0, 0, 1, 96};
    for (int i = 0; i < hoarse.length; i++) {
      x.set(0, 4, hoarse[i]);
      due("HOARSE " + hoarse[i], x.thenPlace(1, 0, 4), behind[i]);
    }
    x.rule(1, 0);
    due("REST 0", x.thenPlace(1, 0, 4), 99);
    x.rule(1, 98);
    due("REST 98", x.thenPlace(1, 0, 4), 1);
    x.rule(1, 99);
    due("REST 99", x.thenPlace(1, 0, 4), 0);
    x.set(0, 4, 0);
    due("REST 99 off 0", x.thenPlace(1, 0, 4), 0);
  }

  // ---- promise 15

  @Asks(of = "Promise 15", says = "n (1 .. 60) COIN WEEKS: THE MARKET's CELL. BEYOND.")
  static void coinsBeyond() {
    LoudMarket x = with(0, 49, 0);
    due("1", x.coins(1), 45);
    due("60", x.coins(60), 49);
    due("WEEKS", x.count(2), 61);
    refused("coins(0)", y -> y.coins(0), BEYOND);
    refused("coins(61)", y -> y.coins(61), BEYOND);
    refused("coins(-1)", y -> y.coins(-1), BEYOND);
    refused("coins(MIN)", y -> y.coins(MIN), BEYOND);
    refused("coins(MAX)", y -> y.coins(MAX), BEYOND);
  }

  @Asks(of = "Promise 15", says = "STATE: likewise, or there are no PLACES.")
  static void coinsWithoutPlaces() {
    refused(Sentences::empty, "coins(1) without PLACES", x -> x.coins(1), STATE);
    refused(Sentences::empty, "coins(60) without PLACES", x -> x.coins(60), STATE);
    refused(Sentences::empty, "BEYOND ahead of STATE", x -> x.coins(61), BEYOND);
    due("with one", with(0, 44, 0).coins(1), 44);
  }

  @Asks(of = "Promise 15", says = "STATE: likewise,")
  static void coinsAboveTheLast() {
    refused(Sentences::old, "coins(10) in 9990", x -> x.coins(10), STATE);
    refused(Sentences::old, "coins(60) in 9990", x -> x.coins(60), STATE);
    refused(Sentences::old, "BEYOND ahead of STATE", x -> x.coins(61), BEYOND);
    LoudMarket x = old();
    due("9 more", x.coins(9), 47);
    due("9999", x.count(2), 9999);
    due("no more", x.coins(1), STATE);
  }

  @Asks(of = "Promise 15, Terms 3",
      says = "each makes it z * 1103515245 + 12345 (an int), and gives z >>> 8.")
  static void drawsWrap() {
    int[] seeds = {1, 0, -1, MIN, MAX, 123456789, 2};
    for (int seed : seeds) {
      LoudMarket x = new LoudMarket();
      int[] cells = {45, 43, 34};
      for (int cell : cells) {
        x.place(0, cell, 0);
      }
      x.seed(seed);
      int z = (int) (seed * 1103515245L + 12345L);
      long draw = (z & 0xFFFFFFFFL) / 256;
      due("seed " + seed, x.coins(1), cells[(int) (draw % 3)]);
      due("z behind " + seed, x.count(7), z);
    }
  }

  @Asks(of = "Promise 15, Terms 3",
      says = "THE MARKET GOES FOR the PLACE that is a draw's rest by how many there are; no HOARSE, no COST; all else as in a WEEK.")
  static void coinWeek() {
    LoudMarket x = with(500, 47, 60);
    x.set(0, 4, 2);
    text(x, 1, "500");
    due("one PLACE", x.coins(1), 45);
    due("no HOARSE, but REST to 0", x.placeIs(0, 4), 0);
    due("no COST, but WORTH", x.placeIs(0, 6), 16);
    due("WEEKS", x.count(2), 1);
    x.set(0, 4, 9);
    x.ground(46, 1);
    due("a RIVER stops it", x.coins(1), 45);
    due("REST", x.placeIs(0, 4), 6);
    x.set(0, 7, 1);
    x.ground(46, 0);
    due("for one that is HUSHED", x.coins(1), 46);
    x.rule(0, 1);
    due("BY PULLS doesn't matter", x.coins(1), 47);
    due("it is there", x.coins(1), 47);
  }

  // ---- promise 16

  @Asks(of = "Promise 16", says = "z becomes v: what it was (any number).")
  static void anySeed() {
    LoudMarket x = new LoudMarket();
    int was = 1;
    for (int v : new int[] {0, -1, MIN, MAX, BEYOND, STATE, 7}) {
      due("seed(" + v + ")", x.seed(v), was);
      due("z", x.count(7), v);
      was = v;
    }
    for (int k = 1; k <= 6; k++) {
      due("no ERROR " + k, x.told(k), 0);
    }
  }

  // ---- promise 17

  private static int movesTo(int km, int cell, int good) {
    LoudMarket x = with(km, cell, 0);
    x.set(0, 5, good);
    int went = x.moves();
    due("as many went", went, x.placeIs(0, 2) == cell ? 0 : 1);
    return x.placeIs(0, 2);
  }

  @Asks(of = "Promise 17, Terms 4", says = "MOVING: a PLACE whose WORTH is below m (m 49 or less)")
  static void movesBelow() {
    due("WORTH 16, m 17", movesTo(17, 46, 20), 45);
    due("WORTH 16, m 16", movesTo(16, 46, 20), 46);
    due("WORTH 16, m 15", movesTo(15, 46, 20), 46);
    due("WORTH 0, m 0", movesTo(0, 46, 0), 46);
    due("WORTH 0, m 1", movesTo(1, 46, 0), 45);
    due("m 49", movesTo(49, 46, 20), 45);
    due("m 50", movesTo(50, 46, 20), 46);
    due("m 99", movesTo(99, 46, 20), 46);
    due("m 49, WORTH 49", movesTo(49, 46, 53), 46);
  }

  @Asks(of = "Promise 17, Terms 4", says = "and that isn't in THE MARKET's CELL goes one CELL for it")
  static void movesNotAtTheMarket() {
    due("in its CELL", movesTo(49, 44, 0), 44);
    due("beside it", movesTo(49, 34, 0), 44);
    due("from the first CELL", movesTo(49, 0, 0), 1);
    due("from the last CELL", movesTo(49, 79, 0), 78);
    due("both alike: along the row", movesTo(49, 66, 0), 65);
    due("rows' difference greater", movesTo(49, 75, 0), 65);
  }

  @Asks(of = "Promise 17, Terms 4", says = "(as THE MARKET GOES FOR a PLACE, but over RIVERS, too).")
  static void movesOverRivers() {
    LoudMarket x = with(49, 48, 0);
    x.ground(47, 1);
    x.ground(48, 1);
    due("in a RIVER to a RIVER", x.moves(), 1);
    due("there", x.placeIs(0, 2), 47);
    due("and on", x.moves(), 1);
    due("there", x.placeIs(0, 2), 46);
    x = with(49, 66, 0);
    x.ground(65, 1);
    x.moves();
    due("not the other way", x.placeIs(0, 2), 65);
  }

  @Asks(of = "Promise 17", says = "MOVING, of PLACES by numbers: how many went.")
  static void movesOfNone() {
    due("no PLACES", new LoudMarket().moves(), 0);
    LoudMarket x = new LoudMarket();
    for (int i = 0; i < 8; i++) {
      x.place(49, 70 + i, 0);
    }
    due("all", x.moves(), 8);
    due("the first", x.placeIs(0, 2), 71);
    due("the last", x.placeIs(7, 2), 76);
    due("no WEEKS", x.count(2), 0);
  }
}
