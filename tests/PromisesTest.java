// The promises one by one, with answers worked out by hand from the document.
public final class PromisesTest {
  private static final int BEYOND = -1000001;
  private static final int NONE = -1000002;
  private static final int STATE = -1000003;
  private static final int FULL = -1000004;
  private static final int KIND = -1000005;
  private static final int PARTED = -1000006;
  private static final int MIN = Integer.MIN_VALUE;
  private static final int MAX = Integer.MAX_VALUE;
  private static final int[][] PARTED_BODIES = {
    {13}, {21, 13}, {21, 13}, {21, 13}, {21, 13}, {13}, {71, 21, 13}};
  private static int wrong = 0;
  private static String promise = "";

  private static void due(String call, long got, long want) {
    if (got != want) {
      wrong++;
      System.out.println(promise + ": " + call + " answered " + got + ", due is " + want);
    }
  }

  private static void feed(LoudMarket x, String text) {
    for (int i = 0; i < text.length(); i++) {
      x.feed(text.charAt(i), 1);
    }
  }

  private static int text(LoudMarket x, int use, String text) {
    feed(x, text);
    return x.text(use);
  }

  /** What CALL gives, held within 0 .. 99, of a TOLD place; 44 less so far. */
  private static int called(String text) {
    LoudMarket x = new LoudMarket();
    x.place(500, 47, 60);
    x.set(0, 4, 8);
    due("text " + text, text(x, 0, text), 1);
    return x.placeIs(0, 8);
  }

  private static void fault(String text, int at) {
    LoudMarket x = new LoudMarket();
    due("fault of " + text, text(x, 0, text), -10 - at);
    due("THE TAPE behind " + text, x.count(4), 0);
  }

  private static void trace(LoudMarket x, int... bodies) {
    due("BODIES", x.count(6), bodies.length);
    for (int i = 0; i < bodies.length; i++) {
      due("body " + i, x.body(i), bodies[i]);
    }
    due("body behind the last", x.body(bodies.length), NONE);
  }

  public static void main(String[] args) {
    theLand();
    places();
    shouts();
    texts();
    weeks();
    ahead();
    voices();
    sheets();
    images();
    System.out.println(wrong == 0 ? "all answers are as due" : wrong + " answers are not as due");
    if (wrong != 0) {
      System.exit(1);
    }
  }

  private static void theLand() {
    promise = "promise 1";
    LoudMarket x = new LoudMarket();
    int[] first = {0, 44, 0, 0, 0, 0, 0, 1, 0};
    for (int i = 0; i < first.length; i++) {
      due("count " + i, x.count(i), first[i]);
    }
    for (int cell = 0; cell < 80; cell++) {
      due("ground " + cell, x.ground(cell, 0), 0);
    }
    due("rule 0", x.rule(0, 0), 0);
    due("rule 1", x.rule(1, 3), 3);
    due("rule 2", x.rule(2, 0), 0);
    due("check", x.check(), 0);
    due("untell 0", x.untell(0), 0);
    due("untell 1", x.untell(1), 0);
    for (int k = 1; k <= 6; k++) {
      due("told " + k, x.told(k), 0);
    }
    due("no place", x.placeIs(0, 0), BEYOND);
    due("no sheet", x.put(0, 0, 0), NONE);
    due("no image", x.restore(), NONE);
    due("no trace", x.body(0), NONE);

    promise = "promise 2";
    x = new LoudMarket();
    due("river", x.ground(0, 1), 0);
    due("rivers from 0 on", x.count(3), 1);
    due("hill", x.ground(0, 2), 1);
    due("ground", x.ground(0, 0), 2);
    due("last cell", x.ground(79, 1), 0);
    due("below", x.ground(-1, 0), BEYOND);
    due("above", x.ground(80, 0), BEYOND);
    due("v below", x.ground(0, -1), BEYOND);
    due("v above", x.ground(0, 3), BEYOND);
    due("far out", x.ground(MIN, MAX), BEYOND);
    due("market's v above", x.ground(44, 3), BEYOND);
    due("market's river", x.ground(44, 1), STATE);
    due("unchanged", x.ground(44, 2), 0);
    due("market's hill", x.ground(44, 0), 2);
    due("rivers", x.count(3), 1);

    promise = "promise 3";
    due("stand", x.stand(0), 44);
    due("stands", x.count(1), 0);
    due("on river", x.stand(79), STATE);
    due("below", x.stand(-1), BEYOND);
    due("above", x.stand(80), BEYOND);
    due("stands still", x.stand(78), 0);
    x.ground(77, 2);
    due("on hill", x.stand(77), 78);
    due("where it is", x.stand(77), 77);

    promise = "promise 4";
    x = new LoudMarket();
    due("mode", x.rule(0, 1), 0);
    due("mode back", x.rule(0, 0), 1);
    due("mode above", x.rule(0, 2), BEYOND);
    due("mode below", x.rule(0, -1), BEYOND);
    due("rest", x.rule(1, 99), 3);
    due("rest 0", x.rule(1, 0), 99);
    due("rest above", x.rule(1, 100), BEYOND);
    due("rest below", x.rule(1, -1), BEYOND);
    due("hills", x.rule(2, 1), 0);
    due("hills above", x.rule(2, 2), BEYOND);
    due("hills kept", x.rule(2, 1), 1);
    due("what below", x.rule(-1, 0), BEYOND);
    due("what above", x.rule(3, 0), BEYOND);

    promise = "promise 5";
    due("same", x.far(33, 33), 0);
    due("row", x.far(30, 39), 9);
    due("column", x.far(5, 75), 7);
    due("both", x.far(9, 70), 16);
    due("back", x.far(70, 9), 16);
    due("near the edge", x.far(19, 20), 10);
    due("one below", x.far(-1, 0), BEYOND);
    due("one above", x.far(80, 0), BEYOND);
    due("other below", x.far(0, -1), BEYOND);
    due("other above", x.far(0, 80), BEYOND);
  }

  private static void places() {
    promise = "promise 6";
    LoudMarket x = new LoudMarket();
    due("first", x.place(699, 79, 99), 0);
    due("kind", x.placeIs(0, 0), 6);
    due("m", x.placeIs(0, 1), 99);
    due("km above", x.place(700, 0, 0), BEYOND);
    due("km below", x.place(-1, 0, 0), BEYOND);
    due("cell above", x.place(0, 80, 0), BEYOND);
    due("cell below", x.place(0, -1, 0), BEYOND);
    due("voice above", x.place(0, 0, 100), BEYOND);
    due("voice below", x.place(0, 0, -1), BEYOND);
    x.ground(3, 1);
    due("on a river", x.place(0, 3, 0), 1);
    due("in the same", x.place(0, 3, 0), 2);
    for (int i = 3; i < 8; i++) {
      due("more", x.place(123, 44, 7), i);
    }
    due("ninth", x.place(0, 0, 0), FULL);
    due("ninth, beyond", x.place(0, 0, 100), BEYOND);
    due("places", x.count(0), 8);

    promise = "promise 7";
    x = new LoudMarket();
    x.place(123, 46, 31);
    int[] is = {1, 23, 46, 31, 0, 20, 0, 0, 31, 16};
    for (int i = 0; i < is.length; i++) {
      due("what " + i, x.placeIs(0, i), is[i]);
    }
    due("what below", x.placeIs(0, -1), BEYOND);
    due("what above", x.placeIs(0, 10), BEYOND);
    due("place below", x.placeIs(-1, 0), BEYOND);
    due("place above", x.placeIs(1, 0), BEYOND);

    promise = "promise 8";
    boolean[][] under = {
      {true, false, false, false, false, false, false},
      {true, true, false, false, false, false, false},
      {true, true, true, false, false, false, false},
      {true, true, false, true, false, false, false},
      {true, true, false, false, true, false, false},
      {true, false, false, false, false, true, false},
      {true, true, false, false, false, false, true}};
    for (int kind = 0; kind < 7; kind++) {
      x.set(0, 0, kind);
      for (int above = 0; above < 7; above++) {
        due(kind + " as " + above, x.as(0, above), under[kind][above] ? 23 : KIND);
      }
    }
    due("kind above", x.as(0, 7), BEYOND);
    due("kind below", x.as(0, -1), BEYOND);
    due("place above", x.as(1, 0), BEYOND);
    due("place below", x.as(-1, 0), BEYOND);

    promise = "promise 9";
    x = new LoudMarket();
    x.place(123, 46, 31);
    int[] most = {6, 99, 79, 99, 99, 99, -1, 1};
    int[] was = {1, 23, 46, 31, 0, 20, 0, 0};
    for (int what = 0; what < 8; what++) {
      due("below " + what, x.set(0, what, -1), BEYOND);
      due("above " + what, x.set(0, what, most[what] + 1), BEYOND);
      if (what == 6) {
        due("purse", x.set(0, 6, 0), BEYOND);
      } else {
        due("most " + what, x.set(0, what, most[what]), was[what]);
        due("is most " + what, x.placeIs(0, what), most[what]);
        due("least " + what, x.set(0, what, 0), most[what]);
        due("is least " + what, x.placeIs(0, what), 0);
      }
    }
    due("what below", x.set(0, -1, 0), BEYOND);
    due("what above", x.set(0, 8, 0), BEYOND);
    due("place above", x.set(1, 0, 0), BEYOND);
    due("place below", x.set(-1, 0, 0), BEYOND);

    promise = "promise 10";
    x = new LoudMarket();
    x.place(49, 44, 0);
    x.place(50, 44, 0);
    due("m 49 at home", x.worth(0, 44), 20);
    due("m 50 at home", x.worth(1, 44), 0);
    due("m 50 beside", x.worth(1, 45), 18);
    due("where 0 is reached", x.worth(0, 4), 12);
    due("0 at least", x.worth(0, 9), 2);
    due("0 beyond", x.worth(0, 0), 4);
    x.set(0, 5, 5);
    due("below 0", x.worth(0, 0), 0);
    x.set(0, 5, 99);
    due("rich", x.worth(0, 79), 83);
    due("cell above", x.worth(0, 80), BEYOND);
    due("cell below", x.worth(0, -1), BEYOND);
    due("place above", x.worth(2, 0), BEYOND);
    due("place below", x.worth(-1, 0), BEYOND);
  }

  private static void shouts() {
    promise = "promise 7, SHOUT";
    LoudMarket x = new LoudMarket();
    x.place(10, 47, 60);
    due("PLACE", x.placeIs(0, 8), 0);
    x.set(0, 0, 1);
    due("LOUD", x.placeIs(0, 8), 60);
    x.set(0, 4, 59);
    due("LOUD hoarse", x.placeIs(0, 8), 1);
    x.set(0, 4, 61);
    due("LOUD too hoarse", x.placeIs(0, 8), 0);
    x.set(0, 4, 10);
    x.set(0, 2, 44);
    due("LOUD at 0 FAR", x.placeIs(0, 8), 0);
    x.set(0, 0, 2);
    due("HOLD at 0 FAR", x.placeIs(0, 8), 50);
    x.set(0, 2, 47);
    due("HOLD at 3 FAR", x.placeIs(0, 8), 50);
    x.set(0, 2, 48);
    due("HOLD at 4 FAR", x.placeIs(0, 8), 0);
    x.set(0, 7, 1);
    x.set(0, 2, 45);
    due("HUSHED", x.placeIs(0, 8), 0);

    x = new LoudMarket();
    x.place(304, 40, 20);
    x.place(306, 62, 20);
    x.place(309, 54, 20);
    due("LEAGUE, one at 4, one at 5", x.placeIs(0, 8), 24);
    due("LEAGUE of two", x.placeIs(1, 8), 32);
    due("LEAGUE with one at 3", x.placeIs(2, 8), 29);
    x.set(1, 0, 1);
    due("LEAGUE alone", x.placeIs(0, 8), 20);
    x.set(1, 0, 3);
    x.set(1, 7, 1);
    due("LEAGUE with a HUSHED one", x.placeIs(0, 8), 20);
    x.set(1, 7, 0);
    x.set(0, 2, 44);
    due("LEAGUE at 0 FAR has m for each other", x.placeIs(0, 8), 8);
    x.set(0, 2, 40);
    x.set(0, 4, 22);
    due("LEAGUE below 0 and m", x.placeIs(0, 8), 2);
    x.set(0, 1, 99);
    x.set(0, 4, 0);
    due("LEAGUE 99 at most", x.placeIs(0, 8), 99);

    x = new LoudMarket();
    x.place(406, 40, 20);
    for (int week = 0; week < 9; week++) {
      due("LATE in week " + week, x.placeIs(0, 8), week % 4 == 2 ? 20 : 0);
      x.set(0, 4, 99);
      x.stand(44);
      x.weeks(1);
      x.set(0, 4, 0);
    }

    x = new LoudMarket();
    x.place(500, 47, 60);
    x.set(0, 4, 9);
    due("TOLD nothing", x.placeIs(0, 8), 51);
    x.set(0, 2, 44);
    due("TOLD at 0 FAR", x.placeIs(0, 8), 51);
    text(x, 0, "0-5");
    due("TOLD below 0", x.placeIs(0, 8), 0);
    text(x, 0, "100");
    due("TOLD above 99", x.placeIs(0, 8), 99);
    x.set(0, 7, 1);
    due("TOLD and HUSHED", x.placeIs(0, 8), 0);

    x = new LoudMarket();
    x.place(600, 47, 6);
    due("AHEAD, worth as much as it costs", x.placeIs(0, 8), 6);
    x.set(0, 3, 8);
    due("AHEAD, cost cut", x.placeIs(0, 8), 8);
    x.set(0, 3, 9);
    due("AHEAD, worth less", x.placeIs(0, 8), 0);
    text(x, 1, "h+g-18");
    due("AHEAD by a told COST", x.placeIs(0, 8), 9);
    x.set(0, 4, 1);
    due("AHEAD by a COST that is more", x.placeIs(0, 8), 0);
    text(x, 1, "s-7");
    x.set(0, 3, 10);
    due("AHEAD by how loud", x.placeIs(0, 8), 9);
    text(x, 1, "0");
    x.ground(45, 1);
    due("AHEAD that stays for a river", x.placeIs(0, 8), 9);
    text(x, 1, "1");
    due("AHEAD that stays and pays", x.placeIs(0, 8), 0);
    x.set(0, 2, 57);
    due("AHEAD the other way", x.placeIs(0, 8), 9);
    x.set(0, 2, 45);
    x.ground(45, 0);
    x.set(0, 1, 50);
    due("AHEAD where it would be too loud", x.placeIs(0, 8), 0);
    x.set(0, 2, 44);
    text(x, 1, "0");
    due("AHEAD at 0 FAR", x.placeIs(0, 8), 0);
  }

  private static void texts() {
    promise = "promise 11";
    LoudMarket x = new LoudMarket();
    due("n below", x.feed(0, 0), BEYOND);
    due("n above", x.feed(0, 9), BEYOND);
    for (int i = 1; i <= 7; i++) {
      due("eight", x.feed(-1L, 8), 8 * i);
    }
    due("too many", x.feed(0, 5), FULL);
    due("too many, beyond", x.feed(0, 9), BEYOND);
    due("all", x.feed(0, 4), 60);
    due("one more", x.feed(0, 1), FULL);
    due("tape", x.count(4), 60);
    due("its text", x.text(0), -10);
    x = new LoudMarket();
    x.place(500, 40, 0);
    x.feed(0x0A3731L, 2);
    due("lowest first", x.text(0), 1);
    due("17", x.placeIs(0, 8), 17);
    x.feed(0x3534333231302B31L, 8);
    due("highest byte last", x.text(0), -10 - 6);

    promise = "promise 12";
    due("names", called("f+v*0+h*0+g*0+w*0"), 3);
    due("v", called("v"), 60);
    due("h", called("h"), 8);
    due("g", called("g"), 20);
    due("w", called("w+1"), 1);
    due("+ - from the left", called("20-5+1-3"), 13);
    due("* / % from the left", called("7*9/4%10"), 5);
    due("precedence", called("1+2*3"), 7);
    due("brackets", called("(1+2)*3"), 9);
    due("< less", called("(1<2)*4+(2<1)*2+(2<2)"), 4);
    due("= less", called("(1=2)*4+(2=1)*2+(2=2)"), 1);
    due("> less", called("(1>2)*4+(2>1)*2+(2>2)"), 2);
    due("compare under &", called("1<2&3"), 1);
    due("compare sums", called("1+1<1+2"), 1);
    due("& is truth", called("2&4"), 1);
    due("& of 0", called("2&0"), 0);
    due("0 &", called("0&2"), 0);
    due("| is truth", called("2|4"), 1);
    due("| of 0", called("0|0"), 0);
    due("0 |", called("0|7"), 1);
    due("| under", called("1|1&0"), 1);
    due("!", called("!0+!7"), 1);
    due("! of !", called("!!9"), 1);
    due("! holds closest", called("!0*5"), 5);
    due("/ by 0", called("7/0"), 0);
    due("% by 0", called("7%0"), 0);
    due("/ cut toward 0", called("(0-7)/2+9"), 6);
    due("% toward 0", called("(0-7)%4+9"), 6);
    due("wraps", called("9999*9999*9999<0"), 1);
    due("wraps around", called("9999*9999*43=4172*1000+747"), 1);
    due("four digits", called("9999-9950"), 49);
    due("leading 0", called("0012"), 12);
    due("five open", called("(((((7)))))"), 7);
    due("five !", called("!!!!!7"), 0);
    due("open again", called("((1))+((2))+!!!3+!!!0"), 4);
    due("60 bytes", called("1+1+1+1+1+1+1+1+1+1+1+1+1+1+1+1+1+1+1+1+1+1+1+1+1+1+1+1+11"), 39);
    due("60 signs", called("!1+1+1+1+1+1+1+1+1+1+1+1+1+1+1+1+1+1+1+1+1+1+1+1+1+1+1+1+1+1"), 29);
    fault("", 0);
    fault("x", 0);
    fault("s", 0);
    fault("1+", 2);
    fault("12345", 4);
    fault("1<2<3", 3);
    fault("1<2=3", 3);
    fault("(1", 2);
    fault("(1<2<3)", 4);
    fault("1)", 1);
    fault("()", 1);
    fault("1 +1", 1);
    fault("fv", 1);
    fault("1!", 1);
    fault("((((((1))))))", 5);
    fault("!!!!!!1", 5);
    fault("!(!(!(1)))", 5);
    fault("(((((!1)))))", 5);
    fault("-1", 0);
    fault("1|&2", 2);
    fault("f\u00e6", 1);
    fault("1&", 2);
    fault("v(", 1);

    x = new LoudMarket();
    x.place(500, 40, 50);
    feed(x, "7");
    due("use below", x.text(-1), BEYOND);
    due("use above", x.text(2), BEYOND);
    due("the tape stays", x.count(4), 1);
    due("one", x.text(0), 1);
    due("the tape is empty", x.count(4), 0);
    due("a fault", text(x, 0, "8+"), -12);
    due("the one ahead stays", x.placeIs(0, 8), 7);
    due("in place of one", text(x, 0, "9"), 1);
    due("the new one", x.placeIs(0, 8), 9);
    due("COST's names", text(x, 1, "s+h+g"), 1);
    due("COST has no f", text(x, 1, "f"), -10);
    due("COST has no v", text(x, 1, "v"), -10);
    due("COST has no w", text(x, 1, "w"), -10);
    due("no ERROR", x.told(1) + x.told(2), 2);

    promise = "promise 13";
    due("use above", x.untell(2), BEYOND);
    due("use below", x.untell(-1), BEYOND);
    due("CALL", x.untell(0), 1);
    due("v - h again", x.placeIs(0, 8), 50);
    due("CALL again", x.untell(0), 0);
    due("COST", x.untell(1), 1);
    due("COST again", x.untell(1), 0);
  }

  private static void weeks() {
    promise = "promise 14";
    LoudMarket x = new LoudMarket();
    x.place(110, 47, 60);
    due("first", x.weeks(1), 45);
    due("hoarse", x.placeIs(0, 4), 27);
    due("purse", x.placeIs(0, 6), -4);
    due("second", x.weeks(1), 46);
    due("hoarse", x.placeIs(0, 4), 40);
    due("purse", x.placeIs(0, 6), 3);
    due("third and fourth", x.weeks(2), 47);
    due("hoarse", x.placeIs(0, 4), 44);
    due("purse", x.placeIs(0, 6), 37);
    due("weeks", x.count(2), 4);
    due("n below", x.weeks(0), BEYOND);
    due("n above", x.weeks(61), BEYOND);
    due("n", x.weeks(60), 47);
    due("no hoarse below 0", x.placeIs(0, 4), 0);

    x = new LoudMarket();
    x.place(100, 0, 99);
    x.set(0, 4, 60);
    x.rule(1, 0);
    x.stand(79);
    x.weeks(5);
    due("less and less", x.placeIs(0, 4), 60 + 19 + 10 + 5 + 2 + 1);
    x.set(0, 0, 5);
    text(x, 0, "99");
    x.weeks(1);
    due("hoarse 99 at most", x.placeIs(0, 4), 99);

    x = new LoudMarket();
    x.place(500, 0, 0);
    text(x, 0, "99");
    text(x, 1, "h*10+g+s");
    x.weeks(1);
    due("COST by HOARSE ahead", x.placeIs(0, 6), -(20 + 99) + 6);
    x.weeks(1);
    due("COST by the next HOARSE", x.placeIs(0, 6), -113 - (460 + 119) + 8);
    x.weeks(1);
    due("COST 999 at most", x.placeIs(0, 6), -684 - 999 + 10);
    text(x, 1, "0-s");
    x.weeks(1);
    due("COST 0 at least", x.placeIs(0, 6), -1673 + 12);
    x.set(0, 7, 1);
    text(x, 1, "7");
    x.weeks(1);
    due("no COST without a SHOUT", x.placeIs(0, 6), -1661 + 12);
    x.set(0, 7, 0);
    text(x, 0, "1");
    x.weeks(1);
    due("COST of a SHOUT of 1", x.placeIs(0, 6), -1649 - 7 + 14);

    x = new LoudMarket();
    x.place(100, 40, 30);
    x.place(100, 48, 30);
    due("two alike", x.weeks(1), 44);
    due("both are hoarse", x.placeIs(0, 4) + x.placeIs(1, 4), 24);
    x.set(0, 3, 31);
    due("the louder", x.weeks(1), 43);
    x = new LoudMarket();
    x.place(0, 40, 30);
    due("none shouts", x.weeks(1), 44);
    due("with no place", new LoudMarket().weeks(60), 44);
    goesFor();
    byPulls();
    hills();
    manyWeeks();
    coins();
    moving();
  }

  private static int gone(int to, int... rivers) {
    LoudMarket x = new LoudMarket();
    x.place(100, to, 50);
    for (int river : rivers) {
      x.ground(river, 1);
    }
    return x.weeks(1);
  }

  private static void goesFor() {
    promise = "promise 14, GOES FOR";
    due("along the row", gone(57), 45);
    due("back along the row", gone(31), 43);
    due("along the column", gone(75), 54);
    due("up the column", gone(5), 34);
    due("alike", gone(66), 45);
    due("river ahead", gone(57, 45), 54);
    due("river ahead, back", gone(31, 43), 34);
    due("river below", gone(75, 54), 45);
    due("both rivers", gone(57, 45, 54), 44);
    due("no other way", gone(49, 45), 44);
    due("no other way down", gone(74, 54), 44);
    due("alike with a river", gone(66, 45), 54);
    due("over a hill, too", gone(49), 45);
  }

  private static void byPulls() {
    promise = "promise 14, BY PULLS";
    LoudMarket x = new LoudMarket();
    x.rule(0, 1);
    due("none pulls", x.weeks(1), 44);
    x.place(100, 40, 30);
    x.place(100, 49, 30);
    due("evened out", x.weeks(1), 44);
    x.place(100, 5, 31);
    due("north and east alike", x.weeks(1), 45);
    x = new LoudMarket();
    x.rule(0, 1);
    x.place(100, 66, 20);
    due("both alike: the columns'", x.weeks(1), 45);
    x = new LoudMarket();
    x.rule(0, 1);
    x.place(100, 66, 20);
    x.ground(45, 1);
    due("a river stops it", x.weeks(1), 44);
    x.place(100, 4, 99);
    x.place(100, 40, 5);
    due("north", x.weeks(1), 34);
    x = new LoudMarket();
    x.rule(0, 1);
    x.place(100, 40, 20);
    x.place(100, 74, 10);
    x.place(100, 4, 50);
    x.place(100, 64, 21);
    due("west against less", x.weeks(1), 43);
    due("whose", x.whose(), NONE);
    x = new LoudMarket();
    x.rule(0, 1);
    x.place(100, 74, 10);
    due("south", x.weeks(1), 54);
    x.set(0, 2, 31);
    x.set(0, 4, 0);
    x.stand(36);
    due("along row 3", x.weeks(1), 35);
    x.set(0, 4, 0);
    x.stand(2);
    x.set(0, 2, 72);
    due("down column 2", x.weeks(1), 12);
    x.set(0, 4, 0);
    x.stand(62);
    x.weeks(1);
    due("hoarse", x.placeIs(0, 4), 2);
  }

  private static void hills() {
    promise = "promise 14, HILLS";
    LoudMarket x = new LoudMarket();
    x.place(500, 49, 99);
    text(x, 0, "50");
    x.ground(44, 2);
    x.ground(45, 2);
    x.ground(46, 2);
    x.rule(2, 1);
    due("even", x.weeks(1), 45);
    due("odd", x.weeks(1), 45);
    due("it shouts all the same", x.placeIs(0, 4), 44);
    due("even again", x.weeks(1), 46);
    x.rule(2, 0);
    due("odd without the law", x.weeks(1), 47);
    x.rule(2, 1);
    x.weeks(1);
    x.stand(47);
    due("odd, from no hill", x.weeks(1), 48);
    x.stand(46);
    x.weeks(1);
    x.stand(46);
    x.rule(0, 1);
    due("BY PULLS, odd", x.weeks(1), 46);
    due("BY PULLS, even", x.weeks(1), 47);
    x.stand(46);
    due("COIN WEEK, odd", x.coins(1), 46);
    due("COIN WEEK, even", x.coins(1), 47);
  }

  private static void manyWeeks() {
    promise = "promise 14, WEEKS";
    LoudMarket x = new LoudMarket();
    x.place(500, 0, 0);
    text(x, 0, "99");
    text(x, 1, "999");
    x.set(0, 5, 0);
    x.stand(79);
    for (int i = 0; i < 166; i++) {
      x.weeks(60);
    }
    due("weeks", x.count(2), 9960);
    due("purse no lower", x.placeIs(0, 6), -999999);
    x.set(0, 5, 99);
    due("ahead of the last", x.weeks(38), 0);
    due("purse held at each step", x.placeIs(0, 6), -999999 + 99);
    due("one too many", x.weeks(2), STATE);
    due("too many, beyond", x.weeks(61), BEYOND);
    due("coins, too many", x.coins(2), STATE);
    x.image();
    due("the last", x.weeks(1), 0);
    x.restore();
    due("the last, by a coin", x.coins(1), 0);
    due("weeks", x.count(2), 9999);
    due("no more", x.weeks(1), STATE);
    due("no more coins", x.coins(1), STATE);
    due("ahead goes on", x.then(60), 0);
    due("ahead goes on", x.thenPlace(60, 0, 4), 99 - 3);
  }

  private static void coins() {
    promise = "promise 15";
    LoudMarket x = new LoudMarket();
    due("no places", x.coins(1), STATE);
    due("n below", x.coins(0), BEYOND);
    due("n above", x.coins(61), BEYOND);
    x.place(0, 47, 60);
    x.place(0, 4, 60);
    x.place(550, 41, 60);
    x.set(0, 4, 50);
    x.set(2, 4, 2);
    due("a draw's rest", x.coins(1), 43);
    due("z", x.count(7), 1103527590);
    due("REST", x.placeIs(0, 4), 47);
    due("REST to 0", x.placeIs(2, 4), 0);
    due("WORTH, no COST", x.placeIs(2, 6), 16);
    due("WORTH of all", x.count(8), 12 + 10 + 16);
    due("weeks", x.count(2), 1);
    due("BY PULLS matters not", x.rule(0, 1), 0);
    x.coins(1);
    due("z", x.count(7), 1103527590 * 1103515245 + 12345);
    due("weeks", x.count(2), 2);
    due("60", x.coins(60) >= 0 ? x.count(2) : -1, 62);

    promise = "promise 16";
    int was = x.count(7);
    due("seed", x.seed(-5), was);
    due("seed is", x.count(7), -5);
    due("seed was", x.seed(MIN), -5);
    due("seed was the least", x.seed(0), MIN);
    x = new LoudMarket();
    x.place(0, 41, 0);
    x.place(0, 47, 0);
    x.seed(2);
    due("a draw of a z below 0", x.coins(1), 45);
    due("z", x.count(7), -2087924461);
  }

  private static void moving() {
    promise = "promise 17";
    LoudMarket x = new LoudMarket();
    due("none", x.moves(), 0);
    x.place(17, 46, 0);
    x.place(16, 46, 0);
    x.place(49, 5, 0);
    x.place(50, 0, 0);
    x.place(30, 44, 0);
    x.set(4, 5, 0);
    x.ground(34, 1);
    x.ground(15, 1);
    x.ground(45, 1);
    due("two go", x.moves(), 2);
    due("WORTH below m", x.placeIs(0, 2), 45);
    due("WORTH as m", x.placeIs(1, 2), 46);
    due("over a river", x.placeIs(2, 2), 15);
    due("m 50", x.placeIs(3, 2), 0);
    due("in its cell", x.placeIs(4, 2), 44);
    x.set(2, 2, 33);
    due("alike: along the row", x.moves(), 1);
    due("there", x.placeIs(2, 2), 34);
    x.set(2, 2, 79);
    x.moves();
    due("back along the row", x.placeIs(2, 2), 78);
    due("weeks", x.count(2), 0);
  }

  private static void ahead() {
    promise = "promise 18";
    LoudMarket x = new LoudMarket();
    x.place(110, 47, 60);
    int[] cells = {44, 45, 46, 47, 47};
    for (int i = 0; i < cells.length; i++) {
      due("then " + i, x.then(i), cells[i]);
    }
    due("far ahead", x.then(60), 47);
    due("n below", x.then(-1), BEYOND);
    due("n above", x.then(61), BEYOND);
    due("nothing changes", x.count(1) * 100 + x.count(2), 4400);

    promise = "promise 19";
    int[] is = {1, 10, 47, 60, 40, 20, 3, 0, 20, 18};
    for (int i = 0; i < is.length; i++) {
      due("what " + i, x.thenPlace(2, 0, i), is[i]);
    }
    due("now", x.thenPlace(0, 0, 4), 0);
    due("what below", x.thenPlace(0, 0, -1), BEYOND);
    due("what above", x.thenPlace(0, 0, 10), BEYOND);
    due("place below", x.thenPlace(0, -1, 0), BEYOND);
    due("place above", x.thenPlace(0, 1, 0), BEYOND);
    due("n below", x.thenPlace(-1, 0, 0), BEYOND);
    due("n above", x.thenPlace(61, 0, 0), BEYOND);
    due("60", x.thenPlace(60, 0, 4), 0);
    due("nothing changes", x.placeIs(0, 4), 0);

    promise = "promise 20";
    due("whose", x.whose(), 0);
    x.place(100, 40, 61);
    due("the louder", x.whose(), 1);
    x.place(100, 41, 61);
    due("two alike", x.whose(), NONE);
    x.place(100, 42, 62);
    due("louder than two", x.whose(), 3);
    x.rule(0, 1);
    due("BY PULLS", x.whose(), NONE);
    x.rule(0, 0);
    x.set(3, 2, 49);
    x.ground(45, 1);
    due("for whom it can't go", x.whose(), 3);
    due("no place", new LoudMarket().whose(), NONE);
    comesAndLeast();
    hushAndBest();
    besideAndRound();
    sharing();
  }

  private static void comesAndLeast() {
    promise = "promise 21";
    LoudMarket x = new LoudMarket();
    x.place(110, 47, 60);
    due("where it is", x.comes(44, 0), 0);
    due("soon", x.comes(46, 60), 2);
    due("just", x.comes(47, 3), 3);
    due("too late", x.comes(47, 2), NONE);
    due("never", x.comes(48, 60), NONE);
    due("cell below", x.comes(-1, 0), BEYOND);
    due("cell above", x.comes(80, 0), BEYOND);
    due("n below", x.comes(44, -1), BEYOND);
    due("n above", x.comes(44, 61), BEYOND);
    due("nothing changes", x.count(1), 44);

    promise = "promise 22";
    x = new LoudMarket();
    x.place(100, 46, 50);
    x.place(100, 40, 30);
    due("two weeks", x.least(0, 2), 31);
    due("too short", x.least(0, 1), NONE);
    due("there", x.least(0, 0), NONE);
    x.set(0, 2, 44);
    due("at once", x.least(0, 0), 0);
    x.set(0, 2, 45);
    due("one week", x.least(0, 1), 31);
    x.set(1, 3, 98);
    due("99", x.least(0, 1), 99);
    x.set(1, 3, 99);
    due("never louder", x.least(0, 1), NONE);
    due("nothing changes", x.placeIs(0, 3), 50);
    due("a river in the way", lookFirst().least(1, 2), NONE);
    due("a river in the way, for one", lookFirst().comes(43, 1), 1);
    due("a river, not in the way", lookFirst().least(2, 1), NONE);
    due("21 and 22 end evened out", lookFirst().least(2, 60), 23);
    due("n below", x.least(0, -1), BEYOND);
    due("n above", x.least(0, 61), BEYOND);
    due("60, always evened out or outdone", x.least(0, 60), NONE);
    x.set(1, 3, 0);
    due("60", x.least(0, 60), 1);
    due("place below", x.least(-1, 0), BEYOND);
    due("place above", x.least(2, 0), BEYOND);
  }

  /** A land whose first look ahead is the next call; a river is in the way along row 4. */
  private static LoudMarket lookFirst() {
    LoudMarket x = new LoudMarket();
    x.place(0, 1, 1);
    x.place(100, 46, 20);
    x.place(100, 40, 30);
    x.ground(45, 1);
    return x;
  }

  private static void hushAndBest() {
    promise = "promise 23";
    LoudMarket x = new LoudMarket();
    x.place(100, 47, 30);
    due("no other", x.hush(0, 5), NONE);
    x.place(100, 40, 10);
    x.place(100, 41, 60);
    due("who is in the way", x.hush(0, 1), 2);
    x.place(100, 48, 5);
    due("who is in the way, not the last", x.hush(0, 1), 2);
    due("of several the least", x.hush(0, 0), 1);
    due("of several the least, of 1", x.hush(1, 0), 0);
    due("for the third", x.hush(2, 1), 0);
    due("nothing changes", x.placeIs(2, 7), 0);
    due("of the louder ones that one", lookFirst().hush(1, 2), 2);
    due("n below", x.hush(0, -1), BEYOND);
    due("n above", x.hush(0, 61), BEYOND);
    due("60", x.hush(0, 60) > 0 ? 1 : 0, 1);
    due("place below", x.hush(-1, 0), BEYOND);
    due("place above", x.hush(4, 0), BEYOND);
    LoudMarket y = new LoudMarket();
    y.place(500, 0, 99);
    y.place(500, 79, 98);
    y.set(0, 5, 0);
    text(y, 0, "99");
    text(y, 1, "99");
    due("a purse below 0", y.hush(0, 3), 1);

    promise = "promise 24";
    x = new LoudMarket();
    due("no places", x.best(0), 0);
    due("nothing", x.best(1), 0);
    x.ground(0, 1);
    due("not a river", x.best(0), 1);
    x.place(0, 42, 0);
    x.place(0, 46, 0);
    due("between", x.best(0), 42);
    due("worths", x.best(1), 32);
    x.ground(42, 1);
    due("the next", x.best(0), 43);
    x.set(1, 7, 1);
    x.set(0, 1, 99);
    x.set(0, 2, 46);
    due("not too loud", x.best(0), 36);
    due("worths", x.best(1), 36);
    due("what below", x.best(-1), BEYOND);
    due("what above", x.best(2), BEYOND);
    x = new LoudMarket();
    for (int cell = 0; cell < 80; cell++) {
      x.ground(cell, 1);
    }
    due("the one that is left", x.best(0), 44);
  }

  private static void besideAndRound() {
    promise = "promise 25";
    LoudMarket x = new LoudMarket();
    x.place(0, 79, 0);
    due("no weeks", x.beside(0, 0), 0);
    due("where it stands", x.beside(0, 1), 44);
    x.set(0, 1, 50);
    due("beside it", x.beside(0, 1), 34);
    x.ground(34, 1);
    due("a river, too", x.beside(0, 20), 34);
    due("nothing changes", x.placeIs(0, 2), 79);
    due("n below", x.beside(0, -1), BEYOND);
    due("n above", x.beside(0, 21), BEYOND);
    due("place below", x.beside(-1, 0), BEYOND);
    due("place above", x.beside(1, 0), BEYOND);
    x = new LoudMarket();
    x.place(500, 79, 0);
    text(x, 0, "99");
    text(x, 1, "99");
    x.set(0, 5, 4);
    due("purses below 0", x.beside(0, 1), 34);

    promise = "promise 26";
    x = new LoudMarket();
    due("tail", x.round(0), 0);
    due("length", x.round(1), 4);
    due("what below", x.round(-1), BEYOND);
    due("what above", x.round(2), BEYOND);
    x.place(0, 0, 0);
    x.set(0, 4, 7);
    due("tail of hoarse", x.round(0), 3);
    due("length of hoarse", x.round(1), 4);
    x.rule(1, 0);
    due("no rest", x.round(0), 0);
    x.rule(1, 1);
    x.place(0, 0, 0);
    x.set(1, 4, 99);
    due("tail of the second", x.round(0), 99);
    x = new LoudMarket();
    x.place(500, 44, 0);
    x.rule(1, 0);
    text(x, 0, "(w%2=1)*2");
    x.set(0, 4, 1);
    due("just within 200, tail", x.round(0), 196);
    due("just within 200, length", x.round(1), 4);
    text(x, 0, "(w%2=0)*2");
    x.set(0, 4, 0);
    due("not within 200", x.round(0), NONE);
    due("not within 200, length", x.round(1), NONE);
    text(x, 0, "(h=0)*98");
    x.rule(1, 10);
    due("a round of 5 weeks comes again behind 20", x.round(1), 20);
    due("its tail", x.round(0), 0);
    x.set(0, 2, 40);
    due("the tail till it stands there", x.round(0), 16);
  }

  private static void sharing() {
    promise = "promise 27";
    LoudMarket x = new LoudMarket();
    due("none", x.share(0), NONE);
    due("none, beyond", x.share(2), BEYOND);
    due("below", x.share(-1), BEYOND);
    x.place(0, 44, 0);
    due("alone", x.share(0), 0);
    due("who", x.share(1), 0);
    x.place(0, 43, 0);
    x.place(0, 44, 0);
    x.place(0, 0, 0);
    LoudMarket y = new LoudMarket();
    y.place(0, 0, 0);
    y.place(0, 44, 0);
    y.weeks(1);
    due("the second", y.share(1), 1);
    due("less the first", y.share(0), 20 - 4);
    y.place(0, 44, 0);
    y.set(0, 5, 99);
    y.weeks(1);
    due("less the third", y.share(0), 4 + 83 - 20);
    x.weeks(2);
    due("difference", x.share(0), 40 - 8);
    due("the least of two", x.share(1), 0);
    x.set(2, 5, 21);
    x.weeks(1);
    due("another", x.share(1), 2);
    due("difference", x.share(0), 61 - 12);
    due("purses", x.count(8), 60 + 54 + 61 + 12);
  }

  private static void voices() {
    promise = "promise 28 and 29";
    LoudMarket x = new LoudMarket();
    int[] kms = {50, 150, 230, 307, 409, 509, 610};
    for (int km : kms) {
      x.place(km, 0, 0);
    }
    due("PLACE calls", x.voice(0, 0, 7), 7);
    trace(x, 10);
    due("PLACE goes", x.voice(0, 1, 7), 14);
    trace(x, 11, 10);
    due("PLACE rests", x.voice(0, 2, 7), -36);
    trace(x, 12, 11, 10);
    due("PLACE pays", x.voice(0, 3, 100), 2);
    trace(x, 13);
    due("PLACE pays, cut", x.voice(0, 3, -99), -1);
    due("LOUD calls", x.voice(1, 0, 7), 4);
    trace(x, 20, 10);
    due("LOUD goes", x.voice(1, 1, 7), 8);
    trace(x, 11, 20, 10);
    due("LOUD rests", x.voice(1, 2, 7), -42);
    trace(x, 12, 11, 20, 10);
    due("LOUD pays", x.voice(1, 3, 100), -2);
    trace(x, 21, 13, 11, 20, 10);
    due("HOLD calls", x.voice(2, 0, 7), 5);
    trace(x, 20, 10);
    due("HOLD goes", x.voice(2, 1, 7), -10);
    trace(x, 30, 11, 20, 10);
    due("HOLD rests", x.voice(2, 2, 7), -40);
    trace(x, 12, 30, 11, 20, 10);
    due("HOLD pays", x.voice(2, 3, 100), 5);
    trace(x, 21, 13, 30, 11, 20, 10);
    due("LEAGUE calls", x.voice(3, 0, 7), 5);
    trace(x, 41, 20, 10);
    due("LEAGUE goes", x.voice(3, 1, 7), 10);
    trace(x, 11, 41, 20, 10);
    due("LEAGUE rests", x.voice(3, 2, 7), -5);
    trace(x, 40, 12, 11, 41, 20, 10);
    due("LEAGUE rests, cut", x.voice(3, 2, -7), -9);
    due("LEAGUE pays", x.voice(3, 3, 100), 31);
    trace(x, 21, 13, 11, 41, 20, 10);
    due("LATE calls", x.voice(4, 0, 7), 8);
    trace(x, 50);
    due("LATE goes", x.voice(4, 1, 7), 16);
    trace(x, 11, 50);
    due("LATE rests", x.voice(4, 2, 7), 7);
    trace(x, 12, 11, 50);
    due("LATE pays", x.voice(4, 3, 100), 36);
    trace(x, 21, 13, 11, 50);
    due("TOLD calls", x.voice(5, 0, 7), 12);
    trace(x, 10);
    due("TOLD goes", x.voice(5, 1, 7), 26);
    trace(x, 60, 11, 10);
    due("TOLD rests", x.voice(5, 2, 7), 51);
    trace(x, 61, 12, 60, 11, 10);
    due("TOLD pays", x.voice(5, 3, 100), 25);
    trace(x, 13);
    due("AHEAD calls", x.voice(6, 0, 7), 19);
    trace(x, 70, 20, 10);
    due("AHEAD goes", x.voice(6, 1, 7), 38);
    trace(x, 11, 70, 20, 10);
    due("AHEAD rests", x.voice(6, 2, 7), 28);
    trace(x, 12, 11, 70, 20, 10);
    due("AHEAD pays", x.voice(6, 3, 100), 37);
    trace(x, 71, 21, 13, 11, 70, 20, 10, 12, 11, 70, 20, 10);

    due("voice below", x.voice(0, -1, 0), BEYOND);
    due("voice above", x.voice(0, 4, 0), BEYOND);
    due("place below", x.voice(-1, 0, 0), BEYOND);
    due("place above", x.voice(7, 0, 0), BEYOND);
    trace(x, 71, 21, 13, 11, 70, 20, 10, 12, 11, 70, 20, 10);
    partings(x);
    due("body below", x.body(-1), NONE);
    due("body far below", x.body(MIN), NONE);
    due("wraps", x.voice(0, 1, MAX), -2);
    x.set(0, 0, 0);
    x.set(1, 0, 0);
    x.set(1, 1, 0);
    due("the least parted by -1", x.voice(1, 3, MIN), MIN);
    int beyond = x.told(1);
    due("a number, no ERROR", x.voice(0, 0, BEYOND), BEYOND);
    due("not counted", x.told(1), beyond);
  }

  private static void partings(LoudMarket x) {
    for (int place = 0; place < 7; place++) {
      int m = x.set(place, 1, place);
      x.voice(place, 0, 0);
      int parted = x.told(6);
      due("PARTED", x.voice(place, 3, 5), PARTED);
      due("counted once", x.told(6), parted + 1);
      trace(x, PARTED_BODIES[place]);
      due("PARTED by 0", x.voice(place, 3, 0), PARTED);
      x.set(place, 1, m);
    }
  }

  private static void sheets() {
    promise = "promise 30";
    LoudMarket x = new LoudMarket();
    due("sheet below", x.sheet(-1, 8, 1), BEYOND);
    due("sheet above", x.sheet(4, 8, 1), BEYOND);
    due("bits", x.sheet(0, 9, 1), BEYOND);
    due("bits below", x.sheet(0, -8, 1), BEYOND);
    due("bits 64", x.sheet(0, 64, 1), BEYOND);
    due("n below", x.sheet(0, 8, -1), STATE);
    due("n far below", x.sheet(0, 8, MIN), STATE);
    due("n above", x.sheet(0, 8, 25), BEYOND);
    due("bits and n below", x.sheet(0, 7, -1), BEYOND);
    due("sheet and n below", x.sheet(4, 8, -1), BEYOND);
    due("missing", x.judge(0), NONE);
    due("24", x.sheet(0, 8, 24), 1);
    due("its last", x.put(0, 23, 1), 1);
    due("none", x.sheet(3, 32, 0), 1);
    due("it stands", x.judge(3), 0);
    due("0 bits", x.sheet(3, 0, -7), 1);
    due("missing", x.judge(3), NONE);
    due("0 bits, many", x.sheet(3, 0, 99), 1);
    due("16", x.sheet(3, 16, 1), 1);
    x.place(0, 0, 50);
    due("all 0", x.voices(3), 1);
    due("voice 0", x.placeIs(0, 3), 0);
    x.put(3, 0, 9);
    due("again", x.sheet(3, 32, 1), 1);
    x.voices(3);
    due("all 0 again", x.placeIs(0, 3), 0);

    promise = "promise 31";
    due("sheet below", x.put(-1, 0, 0), BEYOND);
    due("sheet above", x.put(4, 0, 0), BEYOND);
    due("missing", x.put(1, 0, 0), NONE);
    due("missing, no number", x.put(1, 99, 0), NONE);
    due("number below", x.put(3, -1, 0), BEYOND);
    due("number above", x.put(3, 1, 0), BEYOND);
    int[] bits = {8, 16, 32};
    long[] over = {1L << 8, 1L << 16, 0};
    for (int i = 0; i < 3; i++) {
      x.sheet(2, bits[i], 1);
      due("lowest bits", x.put(2, 0, (int) (77 + over[i])), 1);
      due("are a voice", x.voices(2), 1);
      due("77", x.placeIs(0, 3), 77);
      x.put(2, 0, (int) (78 - over[i]));
      x.voices(2);
      due("78", x.placeIs(0, 3), 78);
    }
    x.sheet(2, 16, 1);
    x.put(2, 0, 256 + 77);
    due("no voice in 16 bits", x.voices(2), 0);
    x.sheet(2, 32, 1);
    x.put(2, 0, 65536 + 77);
    due("no voice in 32 bits", x.voices(2), 0);
    moveNumbers();
    voicesAndPlans();
  }

  private static void moveNumbers() {
    promise = "promise 32";
    LoudMarket x = new LoudMarket();
    for (int i = 0; i < 5; i++) {
      x.place(0, 0, 90);
    }
    x.sheet(0, 8, 5);
    x.sheet(1, 8, 4);
    x.sheet(2, 16, 5);
    for (int i = 0; i < 5; i++) {
      x.put(0, i, i + 1);
    }
    due("sheet below", x.move(-1, 0, 0, 0, 0), BEYOND);
    due("sheet above", x.move(4, 0, 0, 0, 0), BEYOND);
    due("other below", x.move(0, 0, -1, 0, 0), BEYOND);
    due("other above", x.move(0, 0, 4, 0, 0), BEYOND);
    due("missing", x.move(3, 0, 0, 0, 0), NONE);
    due("other missing", x.move(0, 0, 3, 0, 0), NONE);
    due("missing, unlike", x.move(2, 0, 3, 9, 9), NONE);
    due("unlike bits", x.move(0, 0, 2, 0, 1), KIND);
    due("unlike bits, beyond", x.move(0, -1, 2, 0, 1), KIND);
    due("i below", x.move(0, -1, 1, 0, 1), BEYOND);
    due("j below", x.move(0, 0, 1, -1, 1), BEYOND);
    due("n below", x.move(0, 0, 1, 0, -1), BEYOND);
    due("n above", x.move(0, 0, 1, 0, 5), BEYOND);
    due("n above, i", x.move(0, 3, 1, 0, 3), BEYOND);
    due("n above, j", x.move(0, 0, 1, 3, 2), BEYOND);
    due("i above", x.move(0, 6, 1, 0, 0), BEYOND);
    due("j above", x.move(0, 0, 1, 5, 0), BEYOND);
    due("far out", x.move(0, MAX, 1, MAX, MAX), BEYOND);
    due("far out, 1", x.move(0, 1, 0, 1, MAX), BEYOND);
    due("none at the end", x.move(0, 5, 1, 4, 0), 0);
    due("over itself", x.move(0, 0, 0, 1, 4), 4);
    due("voices", x.voices(0), 5);
    int[] up = {1, 1, 2, 3, 4};
    for (int i = 0; i < 5; i++) {
      due("up " + i, x.placeIs(i, 3), up[i]);
    }
    due("and back", x.move(0, 2, 0, 0, 3), 3);
    x.voices(0);
    int[] down = {2, 3, 4, 3, 4};
    for (int i = 0; i < 5; i++) {
      due("down " + i, x.placeIs(i, 3), down[i]);
    }
    due("to another", x.move(0, 1, 1, 2, 2), 2);
    due("voices", x.voices(1), 4);
    int[] other = {0, 0, 3, 4};
    for (int i = 0; i < 4; i++) {
      due("other " + i, x.placeIs(i, 3), other[i]);
    }
  }

  private static void voicesAndPlans() {
    promise = "promise 33";
    LoudMarket x = new LoudMarket();
    x.sheet(0, 32, 3);
    due("no places", x.voices(0), 0);
    x.place(100, 47, 60);
    x.place(100, 40, 50);
    x.put(0, 0, 99);
    x.put(0, 1, 98);
    x.put(0, 2, 97);
    due("till places end", x.voices(0), 2);
    due("99", x.placeIs(0, 3), 99);
    due("98", x.placeIs(1, 3), 98);
    x.put(0, 0, -1);
    x.put(0, 1, 5);
    due("below", x.voices(0), 0);
    due("stays", x.placeIs(1, 3), 98);
    x.put(0, 0, 1);
    x.put(0, 1, 100);
    due("above", x.voices(0), 1);
    due("told", x.placeIs(0, 3), 1);
    due("not told", x.placeIs(1, 3), 98);
    x.sheet(0, 8, 1);
    due("till numbers end", x.voices(0), 1);
    due("sheet below", x.voices(-1), BEYOND);
    due("sheet above", x.voices(4), BEYOND);
    due("missing", x.voices(1), NONE);

    promise = "promise 34";
    x = new LoudMarket();
    x.place(110, 47, 60);
    x.sheet(0, 8, 5);
    int[] cells = {45, 46, 47, 47, 47};
    for (int i = 0; i < 5; i++) {
      due("judged", x.judge(0), i);
      x.put(0, i, cells[i]);
    }
    due("all", x.judge(0), 5);
    due("nothing changes", x.count(1), 44);
    x.put(0, 1, 45);
    due("not so", x.judge(0), 1);
    due("sheet below", x.judge(-1), BEYOND);
    due("sheet above", x.judge(4), BEYOND);
    due("missing", x.judge(1), NONE);
    x.sheet(1, 32, 24);
    for (int i = 0; i < 24; i++) {
      x.put(1, i, x.then(i + 1));
    }
    due("24 weeks", x.judge(1), 24);
    x.put(1, 0, 45 + 256);
    due("32 bits", x.judge(1), 0);
    x.put(0, 0, 45 + 256);
    due("8 bits", x.judge(0), 1);
  }

  private static void images() {
    promise = "promise 35 and 36";
    LoudMarket x = new LoudMarket();
    due("none", x.restore(), NONE);
    x.place(510, 47, 60);
    x.ground(3, 1);
    x.rule(0, 1);
    x.rule(1, 5);
    x.rule(2, 1);
    text(x, 0, "12");
    text(x, 1, "3");
    x.weeks(1);
    x.seed(77);
    feed(x, "9+");
    x.tell(12);
    x.sheet(0, 8, 1);
    x.voice(0, 0, 1);
    due("first", x.image(), 1);
    due("second", x.image(), 2);
    x.place(0, 0, 0);
    x.set(0, 0, 1);
    x.set(0, 2, 1);
    x.ground(3, 0);
    x.ground(4, 1);
    x.rule(0, 0);
    x.rule(1, 6);
    x.rule(2, 0);
    x.untell(0);
    text(x, 1, "8");
    x.weeks(7);
    x.seed(78);
    x.check();
    x.tell(99);
    feed(x, "77");
    x.sheet(0, 8, 2);
    x.voice(0, 1, 1);
    int nones = x.told(2);
    due("restore", x.restore(), 1);
    due("places", x.count(0), 1);
    due("cell", x.count(1), 45);
    due("weeks", x.count(2), 1);
    due("rivers", x.count(3), 1);
    due("tape", x.count(4), 2);
    due("waits", x.count(5), 1);
    due("trace is not of it", x.count(6), 3);
    due("z", x.count(7), 77);
    due("purse", x.count(8), 20 - 4 - 3);
    due("kind", x.placeIs(0, 0), 5);
    due("its cell", x.placeIs(0, 2), 47);
    due("hoarse", x.placeIs(0, 4), 1);
    due("river", x.ground(3, 1), 1);
    due("no river", x.ground(4, 0), 0);
    due("mode", x.rule(0, 1), 1);
    due("rest", x.rule(1, 5), 5);
    due("hills", x.rule(2, 1), 1);
    due("CALL", x.placeIs(0, 8), 12);
    due("COST", x.thenPlace(1, 0, 6), 13 - 3 + 18);
    due("told is not of it", x.told(2), nones);
    due("what waits", x.check(), 0);
    due("sheets are not of it", x.put(0, 1, 0), 1);
    due("the tape", x.feed('1', 1), 3);
    due("its text", x.text(0), 1);
    due("10", x.placeIs(0, 8), 10);
    due("the image stays", x.restore(), 1);
    due("CALL again", x.placeIs(0, 8), 12);
    due("third", x.image(), 3);
    x.untell(0);
    x.untell(1);
    x.image();
    text(x, 0, "5");
    text(x, 1, "5");
    x.restore();
    due("no CALL", x.untell(0), 0);
    due("no COST", x.untell(1), 0);

    promise = "promise 37 and 38";
    x = new LoudMarket();
    x.place(100, 47, 60);
    x.place(100, 41, 50);
    for (int i = 1; i <= 24; i++) {
      due("tell", x.tell(MAX), i);
    }
    due("full", x.tell(1), FULL);
    due("the first", x.check(), 1);
    due("none wait", x.count(5), 0);
    x.tell(60);
    x.tell(50);
    due("as they are", x.check(), 0);
    x.tell(60);
    x.tell(49);
    due("the second", x.check(), 2);
    x.tell(60);
    due("one lacks", x.check(), 2);
    due("all lack", x.check(), 1);
    x.tell(60);
    x.tell(50);
    x.tell(0);
    due("one too many", x.check(), 3);

    promise = "promise 39";
    due("below", x.count(-1), BEYOND);
    due("above", x.count(9), BEYOND);

    promise = "promise 40";
    x = new LoudMarket();
    due("0", x.told(0), BEYOND);
    due("7", x.told(7), BEYOND);
    due("below", x.told(-1), BEYOND);
    due("far below", x.told(MIN), BEYOND);
    due("counted, too", x.told(1), 4);
    x.whose();
    due("NONE", x.told(2), 1);
    x.ground(44, 1);
    x.coins(1);
    due("STATE", x.told(3), 2);
    for (int i = 0; i < 9; i++) {
      x.place(7, 0, 0);
    }
    due("FULL", x.told(4), 1);
    x.as(0, 1);
    due("KIND", x.told(5), 1);
    x.voice(7, 3, 1);
    due("PARTED", x.told(6), 1);
    due("BEYOND", x.told(1), 4);
  }
}
