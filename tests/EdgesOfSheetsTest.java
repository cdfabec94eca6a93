// Promises 28 to 40: each sentence that names an edge of voices, sheets, images
// and of what is told has a test of its own.
public final class EdgesOfSheetsTest extends Sentences {
  public static void main(String[] args) throws Exception {
    run(EdgesOfSheetsTest.class);
  }

  /** As many PLACES as asked for, the last of them of this KIND and m. */
  private static LoudMarket speaker(int km, int number) {
    LoudMarket x = new LoudMarket();
    for (int i = 0; i < number; i++) {
      x.place(0, 0, 0);
    }
    x.place(km, 0, 0);
    return x;
  }

  private static void trace(String call, LoudMarket x, int... bodies) {
    due("BODIES of " + call, x.count(6), bodies.length);
    for (int i = 0; i < bodies.length; i++) {
      due("body(" + i + ") of " + call, x.body(i), bodies[i]);
    }
    due("body(" + bodies.length + ") of " + call, x.body(bodies.length), NONE);
  }

  /** The VOICES of the first PLACES are as told. */
  private static void voicesAre(String call, LoudMarket x, int... voices) {
    for (int i = 0; i < voices.length; i++) {
      due("VOICE " + i + " " + call, x.placeIs(i, 3), voices[i]);
    }
  }

  private static LoudMarket withPlaces(int n) {
    return speaker(50, n - 1);
  }

  private static void lay(LoudMarket x, int sheet, int bits, int... numbers) {
    due("sheet", x.sheet(sheet, bits, numbers.length), 1);
    for (int i = 0; i < numbers.length; i++) {
      due("put", x.put(sheet, i, numbers[i]), 1);
    }
  }

  // ---- promise 28

  @Asks(of = "Promise 28", says = "A VOICE of a PLACE. BEYOND. PARTED.")
  static void voiceBeyond() {
    refused("voice(-1, 0, 0)", x -> x.voice(-1, 0, 0), BEYOND);
    refused("voice(7, 0, 0)", x -> x.voice(7, 0, 0), BEYOND);
    refused("voice(0, -1, 0)", x -> x.voice(0, -1, 0), BEYOND);
    refused("voice(0, 4, 0)", x -> x.voice(0, 4, 0), BEYOND);
    refused("voice(MIN, MAX, MIN)", x -> x.voice(MIN, MAX, MIN), BEYOND);
    refused("BEYOND ahead of PARTED", x -> x.voice(4, 4, 0), BEYOND);
    due("no PLACES", new LoudMarket().voice(0, 0, 0), BEYOND);
    due("the first of both", speaker(50, 0).voice(0, 0, 7), 7);
    due("the last of both", speaker(50, 7).voice(7, 3, 86), 2);
  }

  @Asks(of = "Promise 28, Terms 5",
      says = "cut (PARTED if that is 0; that is all that voice() answers then).")
  static void voiceParted() {
    for (int kind = 0; kind < 7; kind++) {
      for (int number = 0; number < 8; number += 7) {
        LoudMarket x = speaker(100 * kind + number, number);
        due("pays of KIND " + kind, x.voice(number, 3, 9), PARTED);
        due("pays of KIND " + kind + " by 0", x.voice(number, 3, 0), PARTED);
        due("counted", x.told(6), 2);
        for (int voice = 0; voice < 3; voice++) {
          must(x.voice(number, voice, 9) > LOW, "only pays is PARTED");
        }
        x.set(number, 1, number + 1);
        must(x.voice(number, 3, 9) > LOW, "m one more: not PARTED");
      }
    }
    LoudMarket x = speaker(9, 0);
    due("what is cut to 0 isn't PARTED", x.voice(0, 3, 8), 0);
    due("0 parted by 9", x.voice(0, 3, 0), 0);
  }

  @Asks(of = "Promise 28, Terms 5", says = "13 pays: x by (m - k), cut")
  static void paysCut() {
    LoudMarket x = speaker(2, 0);
    due("7 by 2", x.voice(0, 3, 7), 3);
    due("-7 by 2", x.voice(0, 3, -7), -3);
    x = speaker(0, 2);
    due("7 by -2", x.voice(2, 3, 7), -3);
    due("-7 by -2", x.voice(2, 3, -7), 3);
    x.set(2, 1, 99);
    due("97 by 97", x.voice(2, 3, 97), 1);
    due("96 by 97", x.voice(2, 3, 96), 0);
  }

  @Asks(of = "Promise 28, Terms 5",
      says = "VOICES of a PLACE, with a number x (ints that wrap);")
  static void voicesWrap() {
    LoudMarket x = speaker(0, 1);
    due("MIN by -1", x.voice(1, 3, MIN), MIN);
    due("MAX + 1", x.voice(1, 0, MAX), MIN);
    due("(MAX + 1) * 2", x.voice(1, 1, MAX), 0);
    due("MAX * 2", x.voice(1, 1, MAX - 1), -2);
    x = speaker(199, 0);
    due("MIN - 4", x.voice(0, 0, MIN), MAX - 3);
    due("(MIN + 1 - 4) * 2 - 99", x.voice(0, 2, MIN + 1), -6 - 99);
    x = speaker(200, 0);
    due("0 - MIN", x.voice(0, 1, (1 << 30) + 4), MIN);
    x = speaker(500, 0);
    due("MAX + 1, twice", x.voice(0, 1, MAX), 0);
    due("times 3", x.voice(0, 2, 0x20000000 - 1), (0x20000000 * 2) * 3);
    x = speaker(699, 0);
    due("calls of AHEAD", x.voice(0, 0, MAX), MAX - 4 + 99);
    due("no ERROR", x.told(1), 0);
  }

  @Asks(of = "Promise 28, Terms 5", says = "40 rests: super.rests(x / 2).")
  static void halvesCut() {
    LoudMarket x = speaker(300, 0);
    due("x 7", x.voice(0, 2, 7), -2);
    due("x 6", x.voice(0, 2, 6), -2);
    due("x -7", x.voice(0, 2, -7), -14);
    due("x -1", x.voice(0, 2, -1), -8);
    due("x 1", x.voice(0, 2, 1), -8);
  }

  @Asks(of = "Promise 28, Terms 5",
      says = "calls(..) is the BODY of its KIND, or of the next KIND above that has one;")
  static void bodyOfTheNextKindAbove() {
    int[][] first = {
      {10, 11, 12, 13}, {20, 11, 12, 21}, {20, 30, 12, 21}, {41, 11, 40, 21},
      {50, 11, 12, 21}, {10, 60, 61, 13}, {70, 11, 12, 71}};
    for (int kind = 0; kind < 7; kind++) {
      for (int voice = 0; voice < 4; voice++) {
        LoudMarket x = speaker(100 * kind + 9, 0);
        x.voice(0, voice, 5);
        due("VOICE " + voice + " of KIND " + kind, x.body(0), first[kind][voice]);
        x.set(0, 0, 0);
        x.voice(0, voice, 5);
        due("VOICE " + voice + " of what is a PLACE now", x.body(0), 10 + voice);
      }
    }
  }

  @Asks(of = "Promise 28", says = "A VOICE of a PLACE.")
  static void numbersThatLookLikeErrors() {
    LoudMarket x = speaker(0, 0);
    for (int k = 1; k <= 6; k++) {
      due("x + k", x.voice(0, 0, LOW - k), LOW - k);
      due("no ERROR " + k, x.told(k), 0);
    }
  }

  // ---- promise 29

  @Asks(of = "Promise 29", says = "THE TRACE's i-th. NONE: there is none such.")
  static void bodyNone() {
    refused(Sentences::empty, "body(0) without a voice()", x -> x.body(0), NONE);
    refused("body(12)", x -> x.body(12), NONE);
    refused("body(-1)", x -> x.body(-1), NONE);
    refused("body(30)", x -> x.body(30), NONE);
    refused("body(MIN)", x -> x.body(MIN), NONE);
    refused("body(MAX)", x -> x.body(MAX), NONE);
    due("the first", busy().body(0), 71);
    due("the last", busy().body(11), 10);
  }

  @Asks(of = "Promise 29, Terms 5",
      says = "THE TRACE: the numbers of BODIES of the latest voice(), as they began (what stands left is worked out first), the first 30.")
  static void traceOfTheLatest() {
    LoudMarket x = speaker(610, 0);
    due("none at first", x.count(6), 0);
    x.voice(0, 3, 100);
    trace("the longest there is", x, 71, 21, 13, 11, 70, 20, 10, 12, 11, 70, 20, 10);
    x.voice(0, 0, 100);
    trace("a shorter one", x, 70, 20, 10);
    due("BEYOND", x.voice(0, 4, 100), BEYOND);
    trace("one that is BEYOND leaves it", x, 70, 20, 10);
    x.set(0, 0, 0);
    trace("another KIND", x, 70, 20, 10);
    x.voice(0, 0, 100);
    trace("the shortest", x, 10);
  }

  @Asks(of = "Promise 29, Terms 5", says = "(PARTED if that is 0; that is all that voice() answers then)")
  static void traceOfAPartedOne() {
    int[][] bodies = {{13}, {21, 13}, {21, 13}, {21, 13}, {21, 13}, {13}, {71, 21, 13}};
    for (int kind = 0; kind < 7; kind++) {
      LoudMarket x = speaker(100 * kind + 3, 3);
      x.voice(3, 2, 5);
      due("pays of KIND " + kind, x.voice(3, 3, 5), PARTED);
      trace("KIND " + kind, x, bodies[kind]);
    }
  }

  // ---- promise 30

  @Asks(of = "Promise 30",
      says = "A SHEET has n numbers, all 0, of so many bits (8, 16, 32; 0: it is missing, n doesn't matter): 1. BEYOND.")
  static void sheetBeyond() {
    refused("sheet(-1, 8, 4)", x -> x.sheet(-1, 8, 4), BEYOND);
    refused("sheet(4, 8, 4)", x -> x.sheet(4, 8, 4), BEYOND);
    refused("sheet(MIN, 8, 4)", x -> x.sheet(MIN, 8, 4), BEYOND);
    for (int bits : new int[] {-8, -1, 1, 4, 7, 9, 15, 17, 24, 31, 33, 64, MIN, MAX}) {
      refused("sheet(0, " + bits + ", 4)", x -> x.sheet(0, bits, 4), BEYOND);
    }
    refused("no such SHEET, missing", x -> x.sheet(4, 0, 0), BEYOND);
    for (int sheet = 0; sheet < 4; sheet++) {
      for (int bits : new int[] {8, 16, 32}) {
        due("sheet(" + sheet + ", " + bits + ", 1)", new LoudMarket().sheet(sheet, bits, 1), 1);
      }
    }
  }

  @Asks(of = "Promise 30", says = "STATE: n is below 0 (ahead of BEYOND of n).")
  static void sheetBelowNothing() {
    refused("sheet(0, 8, -1)", x -> x.sheet(0, 8, -1), STATE);
    refused("sheet(0, 16, MIN)", x -> x.sheet(0, 16, MIN), STATE);
    refused("sheet(3, 32, -25)", x -> x.sheet(3, 32, -25), STATE);
    refused("BEYOND of SHEET ahead of STATE", x -> x.sheet(4, 8, -1), BEYOND);
    refused("BEYOND of bits ahead of STATE", x -> x.sheet(0, 9, -1), BEYOND);
  }

  @Asks(of = "Promise 30, Terms 6",
      says = "SHEETS 0 .. 3 are rows of 8, 16, 32 bits, at most 24 numbers, or missing (as at first).")
  static void sheetsOfAtMost() {
    refused("sheet(0, 8, 25)", x -> x.sheet(0, 8, 25), BEYOND);
    refused("sheet(0, 32, MAX)", x -> x.sheet(0, 32, MAX), BEYOND);
    LoudMarket x = new LoudMarket();
    for (int sheet = 0; sheet < 4; sheet++) {
      due("missing at first", x.judge(sheet), NONE);
    }
    for (int bits = 8; bits < 64; bits *= 2) {
      due("24", x.sheet(0, bits, 24), 1);
      due("the last", x.put(0, 23, 1), 1);
      due("behind the last", x.put(0, 24, 1), BEYOND);
      due("0", x.sheet(0, bits, 0), 1);
      due("none of 0", x.put(0, 0, 1), BEYOND);
      due("no numbers, but there", x.judge(0), 0);
    }
  }

  @Asks(of = "Promise 30", says = "A SHEET has n numbers, all 0,")
  static void sheetOfNoughts() {
    LoudMarket x = withPlaces(3);
    lay(x, 0, 8, 7, 8, 9);
    x.voices(0);
    voicesAre("as told", x, 7, 8, 9);
    due("laid anew", x.sheet(0, 8, 3), 1);
    due("VOICES", x.voices(0), 3);
    voicesAre("are 0", x, 0, 0, 0);
    lay(x, 0, 8, 7, 8, 9);
    x.sheet(0, 8, 1);
    x.sheet(0, 32, 3);
    due("VOICES", x.voices(0), 3);
    voicesAre("are 0 behind a shorter one", x, 0, 0, 0);
  }

  @Asks(of = "Promise 30", says = "0: it is missing, n doesn't matter")
  static void sheetMissing() {
    for (int n : new int[] {0, 1, 24, 25, -1, MIN, MAX}) {
      LoudMarket x = withPlaces(1);
      lay(x, 2, 8, 7);
      due("sheet(2, 0, " + n + ")", x.sheet(2, 0, n), 1);
      due("missing", x.put(2, 0, 1), NONE);
      due("missing again", x.sheet(2, 0, n), 1);
      x.sheet(2, 8, 1);
      due("there, and 0", x.voices(2), 1);
      voicesAre("is 0", x, 0);
    }
  }

  // ---- promise 31

  @Asks(of = "Promise 31", says = "BEYOND: no such SHEET. NONE: it is missing. BEYOND: no such number.")
  static void putErrors() {
    refused("put(-1, 0, 9)", x -> x.put(-1, 0, 9), BEYOND);
    refused("put(4, 0, 9)", x -> x.put(4, 0, 9), BEYOND);
    refused("put(MAX, 0, 9)", x -> x.put(MAX, 0, 9), BEYOND);
    refused("put(3, 0, 9)", x -> x.put(3, 0, 9), NONE);
    refused("NONE ahead of BEYOND of a number", x -> x.put(3, -1, 9), NONE);
    refused("NONE ahead of BEYOND of a number", x -> x.put(3, 24, 9), NONE);
    refused("put(0, -1, 9)", x -> x.put(0, -1, 9), BEYOND);
    refused("put(0, 8, 9)", x -> x.put(0, 8, 9), BEYOND);
    refused("put(0, 23, 9)", x -> x.put(0, 23, 9), BEYOND);
    refused("put(0, MIN, 9)", x -> x.put(0, MIN, 9), BEYOND);
    refused("put(0, MAX, 9)", x -> x.put(0, MAX, 9), BEYOND);
    LoudMarket x = busy();
    due("the first", x.put(0, 0, 9), 1);
    due("the last", x.put(0, 7, 9), 1);
  }

  @Asks(of = "Promise 31", says = "Number i of a SHEET becomes v (its lowest bits): 1.")
  static void putLowestBits() {
    int[] bits = {8, 16, 32};
    int[][] sevens = {{7, 256 + 7, 7 - 256, MIN + 7, 0x7FFFFF07}, {7, 65536 + 7, 7 - 65536, MIN + 7, 0x7FFF0007}, {7}};
    int[][] none = {{255, -1, 128, 127, 100, MAX}, {256 + 7, 65535, 32767, -1, 100}, {65536 + 7, MIN + 7, 256 + 7, MAX, -1}};
    for (int i = 0; i < bits.length; i++) {
      for (int v : sevens[i]) {
        LoudMarket x = withPlaces(1);
        lay(x, 1, bits[i], v);
        due("VOICES of " + v + " in " + bits[i], x.voices(1), 1);
        voicesAre("of " + v, x, 7);
      }
      for (int v : none[i]) {
        LoudMarket x = withPlaces(1);
        lay(x, 1, bits[i], v);
        due("VOICES of " + v + " in " + bits[i], x.voices(1), 0);
        due("CELL of " + v + " in " + bits[i], x.judge(1), 0);
      }
    }
  }

  // ---- promise 32

  @Asks(of = "Promise 32", says = "BEYOND: no such SHEET. NONE: one is missing. KIND: they are of unlike bits.")
  static void moveErrors() {
    refused("move(-1, 0, 1, 0, 1)", x -> x.move(-1, 0, 1, 0, 1), BEYOND);
    refused("move(4, 0, 1, 0, 1)", x -> x.move(4, 0, 1, 0, 1), BEYOND);
    refused("move(0, 0, -1, 0, 1)", x -> x.move(0, 0, -1, 0, 1), BEYOND);
    refused("move(0, 0, 4, 0, 1)", x -> x.move(0, 0, 4, 0, 1), BEYOND);
    refused("BEYOND ahead of NONE", x -> x.move(3, 0, 4, 0, 1), BEYOND);
    refused("BEYOND ahead of NONE", x -> x.move(4, 0, 3, 0, 1), BEYOND);
    refused("move(3, 0, 1, 0, 1)", x -> x.move(3, 0, 1, 0, 1), NONE);
    refused("move(0, 0, 3, 0, 1)", x -> x.move(0, 0, 3, 0, 1), NONE);
    refused("move(3, 0, 3, 0, 0)", x -> x.move(3, 0, 3, 0, 0), NONE);
    refused("NONE ahead of KIND and BEYOND", x -> x.move(2, 9, 3, -1, -1), NONE);
    refused("move(0, 0, 2, 0, 1)", x -> x.move(0, 0, 2, 0, 1), KIND);
    refused("move(2, 0, 1, 0, 1)", x -> x.move(2, 0, 1, 0, 1), KIND);
    refused("KIND of none", x -> x.move(0, 0, 2, 0, 0), KIND);
    refused("KIND ahead of BEYOND", x -> x.move(0, -1, 2, 9, 99), KIND);
  }

  @Asks(of = "Promise 32", says = "BEYOND: n, i, or j is below 0, or they don't stand there.")
  static void moveBeyond() {
    refused("n below 0", x -> x.move(0, 0, 1, 0, -1), BEYOND);
    refused("i below 0", x -> x.move(0, -1, 1, 0, 1), BEYOND);
    refused("j below 0", x -> x.move(0, 0, 1, -1, 1), BEYOND);
    refused("i below 0, of none", x -> x.move(0, -1, 1, 0, 0), BEYOND);
    refused("j below 0, of none", x -> x.move(0, 0, 1, -1, 0), BEYOND);
    refused("MIN", x -> x.move(0, MIN, 1, MIN, MIN), BEYOND);
    refused("9 of 8", x -> x.move(0, 0, 1, 0, 9), BEYOND);
    refused("8 from 1 on", x -> x.move(0, 1, 1, 0, 8), BEYOND);
    refused("8 to 1", x -> x.move(0, 0, 1, 1, 8), BEYOND);
    refused("1 from 8 on", x -> x.move(0, 8, 1, 0, 1), BEYOND);
    refused("1 to 8", x -> x.move(0, 0, 1, 8, 1), BEYOND);
    refused("MAX numbers", x -> x.move(0, 1, 1, 1, MAX), BEYOND);
    refused("from MAX on", x -> x.move(0, MAX, 1, 0, 1), BEYOND);
    refused("to MAX", x -> x.move(0, 0, 1, MAX, MAX), BEYOND);
    due("all 8", busy().move(0, 0, 1, 0, 8), 8);
    due("the last to the last", busy().move(0, 7, 1, 7, 1), 1);
    unchanged(Sentences::busy, "none", x -> x.move(0, 0, 1, 0, 0), 0);
    unchanged(Sentences::busy, "none behind the last", x -> x.move(0, 8, 1, 8, 0), 0);
    LoudMarket x = busy();
    x.sheet(3, 8, 4);
    due("8 to a row of 4", x.move(0, 0, 3, 0, 8), BEYOND);
    due("8 from a row of 4", x.move(3, 0, 0, 0, 8), BEYOND);
    due("4 to a row of 4", x.move(0, 4, 3, 0, 4), 4);
  }

  @Asks(of = "Promise 32",
      says = "n numbers of a SHEET, from number i on, come to another one (or the same), from its number j on, as they all were: n.")
  static void moveOverItself() {
    LoudMarket x = withPlaces(5);
    lay(x, 0, 8, 1, 2, 3, 4, 5);
    due("up by 1", x.move(0, 0, 0, 1, 4), 4);
    x.voices(0);
    voicesAre("up by 1", x, 1, 1, 2, 3, 4);
    lay(x, 0, 8, 1, 2, 3, 4, 5);
    due("down by 2", x.move(0, 2, 0, 0, 3), 3);
    x.voices(0);
    voicesAre("down by 2", x, 3, 4, 5, 4, 5);
    lay(x, 0, 16, 1, 2, 3, 4, 5);
    due("where they are", x.move(0, 0, 0, 0, 5), 5);
    x.voices(0);
    voicesAre("where they are", x, 1, 2, 3, 4, 5);
    lay(x, 1, 16, 9, 9, 9, 9, 9, 9, 9);
    due("to another", x.move(0, 3, 1, 1, 2), 2);
    x.voices(1);
    voicesAre("of the other", x, 9, 4, 5, 9, 9);
    x.voices(0);
    voicesAre("as they were", x, 1, 2, 3, 4, 5);
  }

  // ---- promise 33

  @Asks(of = "Promise 33", says = "or till PLACES end. BEYOND. NONE.")
  static void voicesErrors() {
    refused("voices(-1)", x -> x.voices(-1), BEYOND);
    refused("voices(4)", x -> x.voices(4), BEYOND);
    refused("voices(MIN)", x -> x.voices(MIN), BEYOND);
    refused("voices(MAX)", x -> x.voices(MAX), BEYOND);
    refused("voices(3)", x -> x.voices(3), NONE);
    refused(Sentences::empty, "voices(0), no PLACES", x -> x.voices(0), NONE);
  }

  @Asks(of = "Promise 33",
      says = "Numbers of a SHEET are VOICES of PLACES 0, 1, ..: how many were told so, up to the first that is none, or till PLACES end.")
  static void voicesUpToTheFirstThatIsNone() {
    LoudMarket x = withPlaces(3);
    lay(x, 0, 16, 0, 99, 100, 5);
    due("100 is none", x.voices(0), 2);
    voicesAre("up to 100", x, 0, 99, 0);
    lay(x, 0, 16, 7, -1, 7);
    due("-1 is none", x.voices(0), 1);
    voicesAre("up to -1", x, 7, 99, 0);
    lay(x, 0, 16, 100, 1, 1);
    due("none", x.voices(0), 0);
    voicesAre("none", x, 7, 99, 0);
  }

  @Asks(of = "Promise 33", says = "or till PLACES end.")
  static void voicesTillPlacesEnd() {
    LoudMarket x = withPlaces(2);
    lay(x, 0, 8, 1, 2, 3, 4);
    due("2 PLACES", x.voices(0), 2);
    voicesAre("till they end", x, 1, 2);
    x.place(0, 0, 50);
    due("the next isn't told", x.placeIs(2, 3), 50);
    due("3 PLACES", x.voices(0), 3);
    lay(x, 0, 8, 9);
    due("till numbers end", x.voices(0), 1);
    voicesAre("till numbers end", x, 9, 2, 3);
    x.sheet(0, 8, 0);
    due("no numbers", x.voices(0), 0);
    LoudMarket empty = new LoudMarket();
    lay(empty, 0, 8, 1, 2);
    due("no PLACES", empty.voices(0), 0);
    x = withPlaces(8);
    x.sheet(0, 32, 24);
    due("8 PLACES, 24 numbers", x.voices(0), 8);
  }

  // ---- promise 34

  @Asks(of = "Promise 34", says = "as many as there are numbers: all are. BEYOND. NONE.")
  static void judgeErrors() {
    refused("judge(-1)", x -> x.judge(-1), BEYOND);
    refused("judge(4)", x -> x.judge(4), BEYOND);
    refused("judge(MIN)", x -> x.judge(MIN), BEYOND);
    refused("judge(MAX)", x -> x.judge(MAX), BEYOND);
    refused("judge(3)", x -> x.judge(3), NONE);
    unchanged(Sentences::busy, "judge(0)", x -> x.judge(0), 0);
  }

  @Asks(of = "Promise 34",
      says = "A PLAN is JUDGED: the place (from 0) of the first that isn't so; as many as there are numbers: all are.")
  static void judgedAll() {
    LoudMarket x = with(110, 47, 60);
    x.sheet(0, 8, 0);
    due("no numbers", x.judge(0), 0);
    lay(x, 0, 8, 45);
    due("all of 1", x.judge(0), 1);
    lay(x, 0, 8, 44);
    due("the first isn't so", x.judge(0), 0);
    lay(x, 0, 8, 45, 46, 47, 46);
    due("the last isn't so", x.judge(0), 3);
    lay(x, 0, 8, 45, 47, 46, 47);
    due("the first of two that aren't so", x.judge(0), 1);
    lay(x, 0, 32, 45, 46, 47, 47, 47, 47, 47, 47, 47, 47, 47, 47, 47, 47, 47, 47, 47, 47, 47, 47, 47, 47, 47, 47);
    due("all of 24", x.judge(0), 24);
    x.put(0, 23, 80);
    due("no CELL", x.judge(0), 23);
    lay(x, 1, 16, 45, 46 + 256, 47);
    due("not its lowest 8 bits alone", x.judge(1), 1);
    due("without PLACES", judgedEmpty(), 2);
  }

  private static int judgedEmpty() {
    LoudMarket x = new LoudMarket();
    lay(x, 0, 8, 44, 44);
    return x.judge(0);
  }

  // ---- promises 35 and 36

  @Asks(of = "Promise 35",
      says = "All (but SHEETS, THE TRACE, what told() tells, and how often this was done) is kept as an IMAGE, in place of one ahead: how often that was done.")
  static void imageInPlaceOfOneAhead() {
    LoudMarket x = new LoudMarket();
    x.image();
    x.stand(7);
    due("again", x.image(), 2);
    x.stand(8);
    due("WEEKS", x.restore(), 0);
    due("the latest", x.count(1), 7);
    due("how often, all the same", x.image(), 3);
    for (int i = 4; i < 40; i++) {
      due("how often", x.image(), i);
    }
  }

  @Asks(of = "Promise 35", says = "All (but SHEETS, THE TRACE, what told() tells, and how often this was done)")
  static void imageOfAllBut() {
    LoudMarket x = withPlaces(2);
    lay(x, 0, 8, 3, 4);
    x.voice(0, 1, 5);
    x.image();
    x.place(9, 9, 9);
    x.place(9, 99, 9);
    x.whose();
    lay(x, 0, 16, 5, 6, 7);
    lay(x, 1, 8, 1);
    x.voice(0, 0, 5);
    x.restore();
    due("PLACES are of it", x.count(0), 2);
    due("BEYOND told", x.told(1), 1);
    due("NONE told", x.told(2), 1);
    due("THE TRACE", x.count(6), 1);
    due("a SHEET's bits", x.move(0, 0, 1, 0, 1), KIND);
    due("a SHEET's numbers", x.voices(0), 2);
    voicesAre("of the SHEET", x, 5, 6);
    due("a SHEET that wasn't there", x.judge(1), 0);
  }

  @Asks(of = "Promise 35", says = "is kept as an IMAGE")
  static void imageOfFullAndEmpty() {
    LoudMarket x = new LoudMarket();
    x.image();
    for (int i = 0; i < 8; i++) {
      x.place(500, 44, 9);
    }
    for (int i = 0; i < 24; i++) {
      x.tell(i);
    }
    text(x, 0, "7");
    text(x, 1, "5");
    feed(x, "1+".repeat(30));
    x.image();
    due("all there", x.restore(), 0);
    due("8 PLACES", x.place(0, 0, 0), FULL);
    due("60 bytes", x.feed('1', 1), FULL);
    due("24 numbers", x.tell(0), FULL);
    due("CALL", x.placeIs(0, 8), 7);
    x.untell(0);
    x.untell(1);
    x.text(0);
    x.check();
    x.seed(0);
    feed(x, "7+".repeat(30));
    x.restore();
    due("60 bytes", x.count(4), 60);
    due("24 numbers", x.count(5), 24);
    due("CALL", x.untell(0), 1);
    due("COST", x.untell(1), 1);
    due("z", x.count(7), 1);
    due("v - h", x.placeIs(0, 8), 9);
    x.image();
    due("no TEXTS now", x.restore(), 0);
    due("no CALL", x.untell(0), 0);
    due("no COST", x.untell(1), 0);
    due("what waits isn't so", x.check(), 1);
    imageOfTapeAndWhatWaits();
  }

  private static void imageOfTapeAndWhatWaits() {
    LoudMarket x = with(500, 47, 60);
    feed(x, "7+");
    x.tell(60);
    x.image();
    text(x, 0, "1");
    feed(x, "9-9");
    x.check();
    x.tell(59);
    x.restore();
    due("what waits", x.check(), 0);
    due("THE TAPE goes on", text(x, 0, "2"), 1);
    due("as it was", x.placeIs(0, 8), 9);
  }

  @Asks(of = "Promise 36", says = "All is as the IMAGE has it, which stays: WEEKS. NONE: there is none.")
  static void restoreNone() {
    refused(Sentences::empty, "restore()", x -> x.restore(), NONE);
    refused(() -> withPlaces(8), "restore() of 8 PLACES", x -> x.restore(), NONE);
  }

  @Asks(of = "Promise 36", says = "All is as the IMAGE has it, which stays: WEEKS.")
  static void theImageStays() {
    LoudMarket x = with(110, 47, 60);
    x.weeks(2);
    x.image();
    for (int i = 0; i < 3; i++) {
      due("WEEKS", x.restore(), 2);
      due("THE MARKET", x.count(1), 46);
      due("HOARSE", x.placeIs(0, 4), 40);
      x.set(0, 4, 99);
      x.ground(0, 1);
      x.rule(1, 0);
      x.weeks(60);
      due("RIVERS", x.count(3), 1);
    }
    x.restore();
    due("RIVERS", x.count(3), 0);
    due("REST", x.rule(1, 3), 3);
  }

  // ---- promises 37 and 38

  @Asks(of = "Promise 37", says = "One more number waits: how many. FULL: 24 wait.")
  static void tellFull() {
    LoudMarket x = new LoudMarket();
    int[] any = {0, -1, MIN, MAX, BEYOND};
    for (int i = 1; i <= 24; i++) {
      due("tell", x.tell(any[i % any.length]), i);
    }
    due("a 25th", x.tell(0), FULL);
    due("24 still", x.count(5), 24);
    Made full = () -> {
      LoudMarket y = busy();
      for (int i = y.count(5); i < 24; i++) {
        y.tell(7);
      }
      return y;
    };
    refused(full, "tell(7)", y -> y.tell(7), FULL);
    x.check();
    due("room again", x.tell(0), 1);
  }

  @Asks(of = "Promise 38",
      says = "The numbers that wait (none do then) are SHOUTS of PLACES 0, 1, .. as they are: 0;")
  static void checkAllSo() {
    LoudMarket x = new LoudMarket();
    due("none wait, no PLACES", x.check(), 0);
    x.place(100, 47, 60);
    x.place(100, 44, 60);
    x.tell(60);
    x.tell(0);
    due("all are", x.check(), 0);
    due("none wait then", x.count(5), 0);
    for (int i = 2; i < 8; i++) {
      x.place(500, 44, i);
    }
    x.tell(60);
    x.tell(0);
    for (int i = 2; i < 8; i++) {
      x.tell(i);
    }
    due("8 are", x.check(), 0);
    x.tell(61);
    x.set(0, 3, 61);
    x.tell(0);
    for (int i = 2; i < 8; i++) {
      x.tell(i);
    }
    due("as they are now", x.check(), 0);
  }

  @Asks(of = "Promise 38", says = "else 1 and the place of the first that isn't so (one that lacks, or is too many, too).")
  static void checkNotSo() {
    LoudMarket x = new LoudMarket();
    x.tell(0);
    due("one is too many, no PLACES", x.check(), 1);
    x.place(100, 47, 60);
    x.place(100, 46, 50);
    due("both lack", x.check(), 1);
    x.tell(60);
    due("the second lacks", x.check(), 2);
    x.tell(59);
    x.tell(50);
    due("the first isn't so", x.check(), 1);
    due("none wait then", x.count(5), 0);
    x.tell(60);
    x.tell(51);
    due("the second isn't so", x.check(), 2);
    x.tell(60);
    x.tell(51);
    x.tell(0);
    due("the first of two", x.check(), 2);
    x.tell(60);
    x.tell(50);
    x.tell(0);
    due("a third is too many", x.check(), 3);
    x.tell(60);
    x.tell(50);
    for (int i = 2; i < 24; i++) {
      x.tell(0);
    }
    due("22 are too many", x.check(), 3);
    due("no ERROR", x.told(2), 0);
  }

  // ---- promise 39

  @Asks(of = "Promise 39", says = "7 z (any number), 8 all PURSES together. BEYOND.")
  static void countBeyond() {
    refused("count(-1)", x -> x.count(-1), BEYOND);
    refused("count(9)", x -> x.count(9), BEYOND);
    refused("count(MIN)", x -> x.count(MIN), BEYOND);
    refused("count(MAX)", x -> x.count(MAX), BEYOND);
    int[] counts = {7, 47, 5, 2, 5, 7, 12, 77};
    for (int what = 0; what < counts.length; what++) {
      due("count(" + what + ")", busy().count(what), counts[what]);
    }
  }

  @Asks(of = "Promise 39", says = "7 z (any number)")
  static void zThatLooksLikeAnError() {
    LoudMarket x = new LoudMarket();
    for (int k = 1; k <= 6; k++) {
      x.seed(LOW - k);
      due("z", x.count(7), LOW - k);
      due("no ERROR " + k, x.told(k), 0);
    }
  }

  @Asks(of = "Promise 39", says = "8 all PURSES together.")
  static void pursesTogether() {
    due("no PLACES", new LoudMarket().count(8), 0);
    LoudMarket x = new LoudMarket();
    for (int i = 0; i < 8; i++) {
      x.place(500, 44, 9);
      x.set(i, 5, i);
    }
    text(x, 1, "999");
    x.rule(1, 99);
    x.weeks(1);
    due("8 of them", x.count(8), -999 * 8 + 28);
    for (int i = 0; i < 8; i++) {
      x.set(i, 5, 0);
    }
    for (int i = 0; i < 17; i++) {
      x.weeks(60);
    }
    due("8 at the lower end", x.count(8), -999999 * 8);
    due("no ERROR", x.told(1) + x.told(2) + x.told(3) + x.told(4) + x.told(5) + x.told(6), 0);
  }

  @Asks(of = "Promise 39", says = "3 how many CELLS are RIVER, 4 bytes of THE TAPE, 5 numbers that wait, 6 BODIES in THE TRACE")
  static void countsOfEmptyAndFull() {
    LoudMarket x = new LoudMarket();
    for (int what = 3; what < 7; what++) {
      due("count(" + what + ")", x.count(what), 0);
    }
    x.ground(0, 1);
    x.ground(79, 1);
    x.ground(1, 2);
    due("RIVERS", x.count(3), 2);
    x.ground(0, 2);
    x.ground(79, 0);
    due("no RIVERS", x.count(3), 0);
    x.feed(0, 8);
    due("bytes", x.count(4), 8);
    x.tell(1);
    due("waits", x.count(5), 1);
  }

  // ---- promise 40

  @Asks(of = "Promise 40", says = "BEYOND: another k (counted, too).")
  static void toldBeyond() {
    refused("told(0)", x -> x.told(0), BEYOND);
    refused("told(7)", x -> x.told(7), BEYOND);
    refused("told(-1)", x -> x.told(-1), BEYOND);
    refused("told(MIN)", x -> x.told(MIN), BEYOND);
    refused("told(MAX)", x -> x.told(MAX), BEYOND);
    LoudMarket x = new LoudMarket();
    x.told(0);
    due("counted, too", x.told(1), 1);
    x.told(7);
    due("counted, too", x.told(1), 2);
  }

  @Asks(of = "Promise 40", says = "How many acts have answered an ERROR LOW - k (k 1 .. 6);")
  static void toldEach() {
    LoudMarket x = withPlaces(8);
    Act[] acts = {
      y -> y.far(80, 0), y -> y.whose(), y -> y.ground(44, 1), y -> y.place(0, 0, 0),
      y -> y.as(0, 1), y -> {
        y.set(0, 1, 0);
        return y.voice(0, 3, 1);
      }};
    for (int k = 1; k <= 6; k++) {
      due("none yet", x.told(k), 0);
      for (int i = 1; i <= k; i++) {
        due("ERROR " + k, acts[k - 1].on(x), LOW - k);
        due("told(" + k + ")", x.told(k), i);
      }
    }
    for (int k = 1; k <= 6; k++) {
      due("each by itself", x.told(k), k);
    }
  }
}
