/** The market goes to who calls loudest; DOC.md's promises say what each call answers. */
public final class LoudMarket {
  private static final int LOW = -1000000;
  private static final int BEYOND = 1;
  private static final int NONE = 2;
  private static final int STATE = 3;
  private static final int FULL = 4;
  private static final int OTHER_KIND = 5;
  private static final int PARTED = 6;

  private static final int COLUMNS = 10;
  private static final int CELLS = 80;
  private static final int MOST_PLACES = 8;
  private static final int MOST = 99;
  private static final int MOST_WEEKS = 9999;
  private static final int MOST_PURSE = 999999;
  private static final int MOST_COST = 999;
  private static final int WEEKS_AHEAD = 60;
  private static final int WEEKS_BESIDE = 20;
  private static final int WEEKS_ROUND = 200;
  private static final int TAPE_BYTES = 60;
  private static final int MOST_WAITING = 24;
  private static final int SHEETS = 4;
  private static final int SHEET_NUMBERS = 24;

  private static final int GROUND = 0;
  private static final int RIVER = 1;
  private static final int HILL = 2;

  private static final int KINDS = 7;
  private static final int PLACE = 0;
  private static final int LOUD = 1;
  private static final int HOLD = 2;
  private static final int LEAGUE = 3;
  private static final int LATE = 4;
  private static final int TOLD = 5;
  private static final int AHEAD = 6;
  private static final int NO_KIND = -1;
  private static final int[] KIND_ABOVE = {NO_KIND, PLACE, LOUD, LOUD, LOUD, PLACE, LOUD};

  // What a PLACE's row holds, numbered as placeIs() and set() number it.
  private static final int ITS_KIND = 0;
  private static final int ITS_M = 1;
  private static final int ITS_CELL = 2;
  private static final int ITS_VOICE = 3;
  private static final int ITS_HOARSE = 4;
  private static final int ITS_GOOD = 5;
  private static final int ITS_PURSE = 6;
  private static final int ITS_HUSHED = 7;
  private static final int PLACE_ROW = 8;
  private static final int ITS_SHOUT = 8;
  private static final int ITS_WORTH = 9;
  // The greatest that set() takes; -1: it takes none.
  private static final int[] MOST_SET = {KINDS - 1, MOST, CELLS - 1, MOST, MOST, MOST, -1, 1};

  private static final int MODE = 0;
  private static final int REST = 1;
  private static final int HILLS = 2;
  private static final int BY_PULLS = 1;
  private static final int[] MOST_LAW = {1, MOST, 1};

  private static final int USES = 2;
  private static final int CALL = 0;
  private static final String CALL_NAMES = "fvhgw";
  private static final String COST_NAMES = "shg";

  private static final int VOICES = 4;
  private static final int CALLS = 0;
  private static final int GOES = 1;
  private static final int RESTS = 2;
  private static final int PAYS = 3;

  private final World now = new World();
  private final World kept = new World();
  private final World ahead = new World();
  private final Reader reader = new Reader();
  private final Speaker speaker = new Speaker();
  private final Rounds rounds = new Rounds();
  private final Sheet[] sheets = {new Sheet(), new Sheet(), new Sheet(), new Sheet()};
  private final int[] errors = new int[PARTED + 1];
  private int images = 0;

  public LoudMarket() {
  }

  // ---- the land

  public int ground(int cell, int v) {
    if (!isCell(cell) || !within(v, GROUND, HILL)) {
      return error(BEYOND);
    }
    if (v == RIVER && cell == now.market) {
      return error(STATE);
    }
    int was = now.ground[cell];
    now.ground[cell] = v;
    return was;
  }

  public int stand(int cell) {
    if (!isCell(cell)) {
      return error(BEYOND);
    }
    if (now.ground[cell] == RIVER) {
      return error(STATE);
    }
    int was = now.market;
    now.market = cell;
    return was;
  }

  public int rule(int what, int v) {
    if (!within(what, MODE, HILLS) || !within(v, 0, MOST_LAW[what])) {
      return error(BEYOND);
    }
    int was = now.law[what];
    now.law[what] = v;
    return was;
  }

  public int far(int one, int other) {
    if (!isCell(one) || !isCell(other)) {
      return error(BEYOND);
    }
    return distance(one, other);
  }

  // ---- places

  public int place(int km, int cell, int voice) {
    if (!within(km, 0, KINDS * 100 - 1) || !isCell(cell) || !within(voice, 0, MOST)) {
      return error(BEYOND);
    }
    if (now.count >= MOST_PLACES) {
      return error(FULL);
    }
    now.settle(km / 100, km % 100, cell, voice);
    return now.count - 1;
  }

  public int placeIs(int place, int what) {
    if (!isPlace(place) || !within(what, ITS_KIND, ITS_WORTH)) {
      return error(BEYOND);
    }
    return now.detail(place, what);
  }

  public int as(int place, int kind) {
    if (!isPlace(place) || !within(kind, 0, KINDS - 1)) {
      return error(BEYOND);
    }
    int[] row = now.places[place];
    if (!isUnder(row[ITS_KIND], kind)) {
      return error(OTHER_KIND);
    }
    return row[ITS_M];
  }

  public int set(int place, int what, int v) {
    if (!isPlace(place) || !within(what, ITS_KIND, ITS_HUSHED) || !within(v, 0, MOST_SET[what])) {
      return error(BEYOND);
    }
    int[] row = now.places[place];
    int was = row[what];
    row[what] = v;
    return was;
  }

  public int worth(int place, int cell) {
    if (!isPlace(place) || !isCell(cell)) {
      return error(BEYOND);
    }
    return worthIn(now.places[place], cell);
  }

  // ---- texts

  public int feed(long word, int n) {
    if (!within(n, 1, 8)) {
      return error(BEYOND);
    }
    if (now.taped + n > TAPE_BYTES) {
      return error(FULL);
    }
    now.tapeOn(word, n);
    return now.taped;
  }

  public int text(int use) {
    if (!within(use, 0, USES - 1)) {
      return error(BEYOND);
    }
    int fault = reader.read(now.tape, now.taped, use == CALL ? CALL_NAMES : COST_NAMES);
    now.taped = 0;
    if (fault >= 0) {
      return -10 - fault;
    }
    now.textOf(use).become(reader.read);
    return 1;
  }

  public int untell(int use) {
    if (!within(use, 0, USES - 1)) {
      return error(BEYOND);
    }
    return now.textOf(use).unmake() ? 1 : 0;
  }

  // ---- weeks

  public int weeks(int n) {
    if (!within(n, 1, WEEKS_AHEAD)) {
      return error(BEYOND);
    }
    if (now.weeks + n > MOST_WEEKS) {
      return error(STATE);
    }
    now.pass(n);
    return now.market;
  }

  public int coins(int n) {
    if (!within(n, 1, WEEKS_AHEAD)) {
      return error(BEYOND);
    }
    if (now.weeks + n > MOST_WEEKS || now.count == 0) {
      return error(STATE);
    }
    for (int i = 0; i < n; i++) {
      now.coinWeek();
    }
    return now.market;
  }

  public int seed(int v) {
    int was = now.z;
    now.z = v;
    return was;
  }

  public int moves() {
    int went = 0;
    for (int i = 0; i < now.count; i++) {
      if (now.moveHouse(now.places[i])) {
        went++;
      }
    }
    return went;
  }

  // ---- ahead

  public int then(int n) {
    if (!within(n, 0, WEEKS_AHEAD)) {
      return error(BEYOND);
    }
    ahead.become(now);
    ahead.pass(n);
    return ahead.market;
  }

  public int thenPlace(int n, int place, int what) {
    if (!within(n, 0, WEEKS_AHEAD) || !isPlace(place) || !within(what, ITS_KIND, ITS_WORTH)) {
      return error(BEYOND);
    }
    ahead.become(now);
    ahead.pass(n);
    return ahead.detail(place, what);
  }

  public int whose() {
    if (now.law[MODE] == BY_PULLS) {
      return error(NONE);
    }
    now.takeShouts();
    int who = now.loudest();
    return who < 0 ? error(NONE) : who;
  }

  public int comes(int cell, int n) {
    if (!isCell(cell) || !within(n, 0, WEEKS_AHEAD)) {
      return error(BEYOND);
    }
    ahead.become(now);
    int behind = 0;
    while (behind < n && ahead.market != cell) {
      ahead.pass(1);
      behind++;
    }
    return ahead.market == cell ? behind : error(NONE);
  }

  public int least(int place, int n) {
    if (!isPlace(place) || !within(n, 0, WEEKS_AHEAD)) {
      return error(BEYOND);
    }
    int home = now.places[place][ITS_CELL];
    ahead.become(now);
    for (int v = 0; v <= MOST; v++) {
      ahead.restart(now);
      ahead.places[place][ITS_VOICE] = v;
      for (int i = 0; i < n && ahead.market != home; i++) {
        ahead.pass(1);
      }
      if (ahead.market == home) {
        return v;
      }
    }
    return error(NONE);
  }

  public int hush(int place, int n) {
    if (!isPlace(place) || !within(n, 0, WEEKS_AHEAD)) {
      return error(BEYOND);
    }
    int whom = -1;
    int most = 0;
    ahead.become(now);
    for (int i = 0; i < now.count; i++) {
      if (i == place) {
        continue;
      }
      ahead.restart(now);
      ahead.places[i][ITS_HUSHED] = 1;
      ahead.pass(n);
      int purse = ahead.places[place][ITS_PURSE];
      if (whom < 0 || purse > most) {
        whom = i;
        most = purse;
      }
    }
    return whom < 0 ? error(NONE) : whom;
  }

  public int best(int what) {
    if (!within(what, 0, 1)) {
      return error(BEYOND);
    }
    int cell = -1;
    int most = 0;
    for (int i = 0; i < CELLS; i++) {
      if (now.ground[i] == RIVER) {
        continue;
      }
      int worths = now.worthsIn(i);
      if (cell < 0 || worths > most) {
        cell = i;
        most = worths;
      }
    }
    if (cell < 0) {
      return error(NONE);
    }
    return what == 0 ? cell : most;
  }

  public int beside(int place, int n) {
    if (!isPlace(place) || !within(n, 0, WEEKS_BESIDE)) {
      return error(BEYOND);
    }
    int where = 0;
    int most = 0;
    ahead.become(now);
    for (int cell = 0; cell < CELLS; cell++) {
      ahead.restart(now);
      ahead.places[place][ITS_CELL] = cell;
      ahead.pass(n);
      int purse = ahead.places[place][ITS_PURSE];
      if (cell == 0 || purse > most) {
        where = cell;
        most = purse;
      }
    }
    return where;
  }

  public int round(int what) {
    if (!within(what, 0, 1)) {
      return error(BEYOND);
    }
    ahead.become(now);
    rounds.see(ahead, 0);
    for (int i = 1; i <= WEEKS_ROUND; i++) {
      ahead.pass(1);
      rounds.see(ahead, i);
      int tail = rounds.alike(i);
      if (tail >= 0) {
        return what == 0 ? tail : i - tail;
      }
    }
    return error(NONE);
  }

  public int share(int what) {
    if (!within(what, 0, 1)) {
      return error(BEYOND);
    }
    if (now.count == 0) {
      return error(NONE);
    }
    int richest = now.richest();
    if (what == 1) {
      return richest;
    }
    return now.places[richest][ITS_PURSE] - now.leastPurse();
  }

  // ---- voices, sheets, images, what is told

  public int voice(int place, int voice, int x) {
    if (!isPlace(place) || !within(voice, CALLS, PAYS)) {
      return error(BEYOND);
    }
    int[] row = now.places[place];
    int said = speaker.speak(row[ITS_KIND], row[ITS_M], place, voice, x);
    return speaker.parted ? error(PARTED) : said;
  }

  public int body(int i) {
    if (!within(i, 0, speaker.traced - 1)) {
      return error(NONE);
    }
    return speaker.trace[i];
  }

  public int sheet(int sheet, int bits, int n) {
    if (!isSheet(sheet) || (bits != 0 && bits != 8 && bits != 16 && bits != 32)) {
      return error(BEYOND);
    }
    if (bits == 0) {
      sheets[sheet].lay(0, 0);
      return 1;
    }
    if (n < 0) {
      return error(STATE);
    }
    if (n > SHEET_NUMBERS) {
      return error(BEYOND);
    }
    sheets[sheet].lay(bits, n);
    return 1;
  }

  public int put(int sheet, int i, int v) {
    if (!isSheet(sheet)) {
      return error(BEYOND);
    }
    Sheet to = sheets[sheet];
    if (to.isMissing()) {
      return error(NONE);
    }
    if (!within(i, 0, to.length - 1)) {
      return error(BEYOND);
    }
    to.write(i, v);
    return 1;
  }

  public int move(int sheet, int i, int other, int j, int n) {
    if (!isSheet(sheet) || !isSheet(other)) {
      return error(BEYOND);
    }
    Sheet from = sheets[sheet];
    Sheet to = sheets[other];
    if (from.isMissing() || to.isMissing()) {
      return error(NONE);
    }
    if (from.bits != to.bits) {
      return error(OTHER_KIND);
    }
    if (!from.hasRun(i, n) || !to.hasRun(j, n)) {
      return error(BEYOND);
    }
    System.arraycopy(from.numbers, i, to.numbers, j, n);
    return n;
  }

  public int voices(int sheet) {
    if (!isSheet(sheet)) {
      return error(BEYOND);
    }
    Sheet from = sheets[sheet];
    if (from.isMissing()) {
      return error(NONE);
    }
    int told = 0;
    while (told < now.count && told < from.length && within(from.numbers[told], 0, MOST)) {
      now.places[told][ITS_VOICE] = from.numbers[told];
      told++;
    }
    return told;
  }

  public int judge(int sheet) {
    if (!isSheet(sheet)) {
      return error(BEYOND);
    }
    Sheet plan = sheets[sheet];
    if (plan.isMissing()) {
      return error(NONE);
    }
    ahead.become(now);
    for (int i = 0; i < plan.length; i++) {
      ahead.pass(1);
      if (plan.numbers[i] != ahead.market) {
        return i;
      }
    }
    return plan.length;
  }

  public int image() {
    kept.become(now);
    images++;
    return images;
  }

  public int restore() {
    if (images == 0) {
      return error(NONE);
    }
    now.become(kept);
    return now.weeks;
  }

  public int tell(int v) {
    if (now.waits >= MOST_WAITING) {
      return error(FULL);
    }
    now.waiting[now.waits] = v;
    now.waits++;
    return now.waits;
  }

  public int check() {
    int waited = now.waits;
    now.waits = 0;
    int both = Math.min(waited, now.count);
    for (int i = 0; i < both; i++) {
      if (now.waiting[i] != now.shoutOf(i)) {
        return 1 + i;
      }
    }
    return waited == now.count ? 0 : 1 + both;
  }

  public int count(int what) {
    switch (what) {
      case 0: return now.count;
      case 1: return now.market;
      case 2: return now.weeks;
      case 3: return now.rivers();
      case 4: return now.taped;
      case 5: return now.waits;
      case 6: return speaker.traced;
      case 7: return now.z;
      case 8: return now.purses();
      default: return error(BEYOND);
    }
  }

  public int told(int k) {
    if (!within(k, BEYOND, PARTED)) {
      return error(BEYOND);
    }
    return errors[k];
  }

  // ---- what the calls share

  private int error(int k) {
    errors[k]++;
    return LOW - k;
  }

  private boolean isPlace(int place) {
    return place >= 0 && place < now.count;
  }

  private static boolean isCell(int cell) {
    return within(cell, 0, CELLS - 1);
  }

  private static boolean isSheet(int sheet) {
    return within(sheet, 0, SHEETS - 1);
  }

  private static boolean within(int v, int least, int most) {
    return v >= least && v <= most;
  }

  private static int held(int v, int least, int most) {
    return Math.max(least, Math.min(most, v));
  }

  private static int sign(int v) {
    return v > 0 ? 1 : v < 0 ? -1 : 0;
  }

  private static int distance(int one, int other) {
    int across = one % COLUMNS - other % COLUMNS;
    int down = one / COLUMNS - other / COLUMNS;
    return Math.abs(across) + Math.abs(down);
  }

  private static int worthIn(int[] row, int cell) {
    if (row[ITS_CELL] == cell && row[ITS_M] >= 50) {
      return 0;
    }
    return Math.max(0, row[ITS_GOOD] - 2 * distance(row[ITS_CELL], cell));
  }

  private static boolean isUnder(int kind, int above) {
    int k = kind;
    for (int i = 0; i < KINDS && k >= 0 && k < KINDS; i++) {
      if (k == above) {
        return true;
      }
      k = KIND_ABOVE[k];
    }
    return false;
  }

  /** All that an IMAGE keeps; another one of it looks ahead. */
  private static final class World {
    final int[] ground = new int[CELLS];
    final int[] law = {0, 3, 0};
    final int[][] places = new int[MOST_PLACES][PLACE_ROW];
    final Text callText = new Text();
    final Text costText = new Text();
    final int[] names = new int[CALL_NAMES.length()];
    final int[] shouts = new int[MOST_PLACES];
    final int[] tape = new int[TAPE_BYTES];
    final int[] waiting = new int[MOST_WAITING];
    int market = 44;
    int weeks = 0;
    int z = 1;
    int count = 0;
    int taped = 0;
    int waits = 0;

    void become(World other) {
      System.arraycopy(other.ground, 0, ground, 0, CELLS);
      System.arraycopy(other.law, 0, law, 0, law.length);
      callText.become(other.callText);
      costText.become(other.costText);
      System.arraycopy(other.tape, 0, tape, 0, TAPE_BYTES);
      taped = other.taped;
      System.arraycopy(other.waiting, 0, waiting, 0, MOST_WAITING);
      waits = other.waits;
      restart(other);
    }

    /** Only what WEEKS and the trials of a look ahead change. */
    void restart(World other) {
      market = other.market;
      weeks = other.weeks;
      z = other.z;
      count = other.count;
      for (int i = 0; i < MOST_PLACES; i++) {
        System.arraycopy(other.places[i], 0, places[i], 0, PLACE_ROW);
      }
    }

    void settle(int kind, int m, int cell, int voice) {
      if (count >= MOST_PLACES) {
        return;
      }
      int[] row = places[count];
      row[ITS_KIND] = kind;
      row[ITS_M] = m;
      row[ITS_CELL] = cell;
      row[ITS_VOICE] = voice;
      row[ITS_HOARSE] = 0;
      row[ITS_GOOD] = 20;
      row[ITS_PURSE] = 0;
      row[ITS_HUSHED] = 0;
      count++;
    }

    int detail(int i, int what) {
      if (what == ITS_SHOUT) {
        return shoutOf(i);
      }
      if (what == ITS_WORTH) {
        return worthIn(places[i], market);
      }
      return places[i][what];
    }

    Text textOf(int use) {
      return use == CALL ? callText : costText;
    }

    void tapeOn(long word, int n) {
      for (int i = 0; i < n && taped < TAPE_BYTES; i++) {
        tape[taped] = (int) (word >>> (8 * i)) & 255;
        taped++;
      }
    }

    int shoutOf(int i) {
      int[] row = places[i];
      if (row[ITS_HUSHED] == 1) {
        return 0;
      }
      int far = distance(row[ITS_CELL], market);
      int left = row[ITS_VOICE] - row[ITS_HOARSE];
      int loud = far == 0 ? 0 : left;
      int shout = 0;
      switch (row[ITS_KIND]) {
        case LOUD: shout = loud; break;
        case HOLD: shout = far <= 3 ? left : 0; break;
        case LEAGUE: shout = loud + row[ITS_M] * leaguesNear(i); break;
        case LATE: shout = weeks % 4 == row[ITS_M] % 4 ? loud : 0; break;
        case TOLD: shout = called(row, far); break;
        case AHEAD: shout = gainOf(row) >= costOf(row, held(loud, 0, MOST)) ? loud : 0; break;
        default: break;
      }
      return held(shout, 0, MOST);
    }

    private int leaguesNear(int i) {
      int near = 0;
      for (int j = 0; j < count; j++) {
        int[] row = places[j];
        if (j != i && row[ITS_KIND] == LEAGUE && row[ITS_HUSHED] == 0
            && distance(row[ITS_CELL], places[i][ITS_CELL]) <= 4) {
          near++;
        }
      }
      return near;
    }

    private int called(int[] row, int far) {
      if (!callText.stands) {
        return row[ITS_VOICE] - row[ITS_HOARSE];
      }
      names[0] = far;
      names[1] = row[ITS_VOICE];
      names[2] = row[ITS_HOARSE];
      names[3] = row[ITS_GOOD];
      names[4] = weeks;
      return callText.value(names);
    }

    private int costOf(int[] row, int shout) {
      if (!costText.stands) {
        return shout / 3;
      }
      names[0] = shout;
      names[1] = row[ITS_HOARSE];
      names[2] = row[ITS_GOOD];
      return held(costText.value(names), 0, MOST_COST);
    }

    private int gainOf(int[] row) {
      int there = nextCell(market, row[ITS_CELL], false);
      return worthIn(row, there) - worthIn(row, market);
    }

    void takeShouts() {
      for (int i = 0; i < count; i++) {
        shouts[i] = shoutOf(i);
      }
    }

    /** The PLACE whose taken SHOUT is greatest, -1 if two have it or none shouts. */
    int loudest() {
      int who = -1;
      int most = 0;
      for (int i = 0; i < count; i++) {
        if (shouts[i] > most) {
          most = shouts[i];
          who = i;
        } else if (shouts[i] == most) {
          who = -1;
        }
      }
      return who;
    }

    void pass(int n) {
      for (int i = 0; i < n; i++) {
        takeShouts();
        goByLaw();
        payShouts();
        endWeek();
      }
    }

    void coinWeek() {
      z = z * 1103515245 + 12345;
      int who = count > 0 ? (z >>> 8) % count : -1;
      if (mayGo()) {
        goFor(who);
      }
      endWeek();
    }

    private boolean mayGo() {
      return law[HILLS] == 0 || ground[market] != HILL || weeks % 2 == 0;
    }

    private void goByLaw() {
      if (!mayGo()) {
        return;
      }
      if (law[MODE] == BY_PULLS) {
        goByPulls();
      } else {
        goFor(loudest());
      }
    }

    private void goFor(int who) {
      if (who >= 0 && who < count) {
        market = nextCell(market, places[who][ITS_CELL], false);
      }
    }

    private void goByPulls() {
      int east = 0;
      int south = 0;
      for (int i = 0; i < count; i++) {
        int cell = places[i][ITS_CELL];
        east += shouts[i] * sign(cell % COLUMNS - market % COLUMNS);
        south += shouts[i] * sign(cell / COLUMNS - market / COLUMNS);
      }
      int step = Math.abs(east) >= Math.abs(south)
          ? sign(east) : COLUMNS * sign(south);
      if (!isRiver(market + step)) {
        market += step;
      }
    }

    private void payShouts() {
      for (int i = 0; i < count; i++) {
        if (shouts[i] > 0) {
          int[] row = places[i];
          int cost = costOf(row, shouts[i]);
          row[ITS_HOARSE] = Math.min(MOST, row[ITS_HOARSE] + shouts[i] / 2);
          row[ITS_PURSE] = held(row[ITS_PURSE] - cost, -MOST_PURSE, MOST_PURSE);
        }
      }
    }

    private void endWeek() {
      for (int i = 0; i < count; i++) {
        int[] row = places[i];
        int purse = row[ITS_PURSE] + worthIn(row, market);
        row[ITS_PURSE] = held(purse, -MOST_PURSE, MOST_PURSE);
        row[ITS_HOARSE] = Math.max(0, row[ITS_HOARSE] - law[REST]);
      }
      weeks++;
    }

    private boolean isRiver(int cell) {
      return cell < 0 || cell >= CELLS || ground[cell] == RIVER;
    }

    /** Where one goes that is in a CELL and goes for another, one CELL on. */
    private int nextCell(int from, int to, boolean overRivers) {
      int across = to % COLUMNS - from % COLUMNS;
      int down = to / COLUMNS - from / COLUMNS;
      int alongRow = from + sign(across);
      int alongColumn = from + COLUMNS * sign(down);
      boolean rowFirst = Math.abs(across) >= Math.abs(down);
      int first = rowFirst ? alongRow : alongColumn;
      int second = rowFirst ? alongColumn : alongRow;
      if (first != from && (overRivers || !isRiver(first))) {
        return first;
      }
      if (second != from && (overRivers || !isRiver(second))) {
        return second;
      }
      return from;
    }

    boolean moveHouse(int[] row) {
      if (row[ITS_M] > 49 || row[ITS_CELL] == market || worthIn(row, market) >= row[ITS_M]) {
        return false;
      }
      row[ITS_CELL] = nextCell(row[ITS_CELL], market, true);
      return true;
    }

    int worthsIn(int cell) {
      int worths = 0;
      for (int i = 0; i < count; i++) {
        worths += worthIn(places[i], cell);
      }
      return worths;
    }

    int richest() {
      int who = 0;
      for (int i = 1; i < count; i++) {
        if (places[i][ITS_PURSE] > places[who][ITS_PURSE]) {
          who = i;
        }
      }
      return who;
    }

    int leastPurse() {
      int least = places[0][ITS_PURSE];
      for (int i = 1; i < count; i++) {
        least = Math.min(least, places[i][ITS_PURSE]);
      }
      return least;
    }

    int purses() {
      int sum = 0;
      for (int i = 0; i < count; i++) {
        sum += places[i][ITS_PURSE];
      }
      return sum;
    }

    int rivers() {
      int rivers = 0;
      for (int cell = 0; cell < CELLS; cell++) {
        if (ground[cell] == RIVER) {
          rivers++;
        }
      }
      return rivers;
    }
  }

  /** CELL and HOARSE of all behind each WEEK ahead, to find where they come again. */
  private static final class Rounds {
    private static final int WIDTH = 1 + MOST_PLACES;
    private final int[][] seen = new int[WEEKS_ROUND + 1][WIDTH];

    void see(World world, int week) {
      if (!within(week, 0, WEEKS_ROUND)) {
        return;
      }
      int[] row = seen[week];
      row[0] = world.market;
      for (int i = 0; i < MOST_PLACES; i++) {
        row[1 + i] = i < world.count ? world.places[i][ITS_HOARSE] : 0;
      }
    }

    /** The WEEK ahead of this one, by a multiple of 4, behind which all was so; -1: none. */
    int alike(int week) {
      for (int i = week - 4; i >= 0 && week <= WEEKS_ROUND; i -= 4) {
        if (isAlike(seen[i], seen[week])) {
          return i;
        }
      }
      return -1;
    }

    private static boolean isAlike(int[] one, int[] other) {
      for (int i = 0; i < WIDTH; i++) {
        if (one[i] != other[i]) {
          return false;
        }
      }
      return true;
    }
  }

  /** A TEXT as signs in the order in which they are worked out, operands first. */
  private static final class Text {
    static final int NUMBER = 'n';
    static final int NAME = 'a';
    private final int[] signs = new int[TAPE_BYTES];
    private final int[] operands = new int[TAPE_BYTES];
    private final int[] stack = new int[TAPE_BYTES];
    private int length = 0;
    boolean stands = false;

    void become(Text other) {
      System.arraycopy(other.signs, 0, signs, 0, other.length);
      System.arraycopy(other.operands, 0, operands, 0, other.length);
      length = other.length;
      stands = other.stands;
    }

    boolean unmake() {
      boolean stood = stands;
      stands = false;
      length = 0;
      return stood;
    }

    void start() {
      length = 0;
      stands = true;
    }

    void add(int sign, int operand) {
      if (length < TAPE_BYTES) {
        signs[length] = sign;
        operands[length] = operand;
        length++;
      }
    }

    int value(int[] names) {
      int top = 0;
      for (int i = 0; i < length; i++) {
        int sign = signs[i];
        int operand = operands[i];
        if (sign == NUMBER && top < TAPE_BYTES) {
          stack[top] = operand;
          top++;
        } else if (sign == NAME && top < TAPE_BYTES && within(operand, 0, names.length - 1)) {
          stack[top] = names[operand];
          top++;
        } else if (sign == '!' && top > 0) {
          stack[top - 1] = stack[top - 1] == 0 ? 1 : 0;
        } else if (top > 1) {
          top--;
          stack[top - 1] = joined(sign, stack[top - 1], stack[top]);
        }
      }
      return top > 0 ? stack[top - 1] : 0;
    }

    private static int joined(int sign, int a, int b) {
      switch (sign) {
        case '|': return a != 0 || b != 0 ? 1 : 0;
        case '&': return a != 0 && b != 0 ? 1 : 0;
        case '<': return a < b ? 1 : 0;
        case '=': return a == b ? 1 : 0;
        case '>': return a > b ? 1 : 0;
        case '+': return a + b;
        case '-': return a - b;
        case '*': return a * b;
        case '/': return b == 0 ? 0 : a / b;
        case '%': return b == 0 ? 0 : a % b;
        default: return 0;
      }
    }
  }

  /** Reads THE TAPE by the grammar's letters T to Q. */
  private static final class Reader {
    private static final int MOST_OPEN = 5;
    private static final int MOST_DIGITS = 4;
    private static final int JOINED_LETTERS = 5;
    private static final int COMPARED = 2;
    final Text read = new Text();
    private int[] bytes = new int[0];
    private int length = 0;
    private int at = 0;
    private int fault = -1;
    private String names = "";

    /** Where the FAULT is, -1 if there is none: then the TEXT stands in read. */
    int read(int[] tape, int taped, String namesOfUse) {
      bytes = tape;
      length = Math.min(taped, tape.length);
      names = namesOfUse;
      at = 0;
      fault = -1;
      read.start();
      readJoined(0, 0);
      if (at < length) {
        fail();
      }
      return fault;
    }

    private void fail() {
      if (fault < 0) {
        fault = at;
      }
    }

    /** The byte that is read next; -1 at the end and behind a FAULT. */
    private int next() {
      return fault < 0 && at < length ? bytes[at] : -1;
    }

    private boolean nextIs(String signs) {
      int b = next();
      return b >= 0 && signs.indexOf((char) b) >= 0;
    }

    private static String signsOf(int letter) {
      switch (letter) {
        case 0: return "|";
        case 1: return "&";
        case COMPARED: return "<=>";
        case 3: return "+-";
        default: return "*/%";
      }
    }

    /** T, A, B, S and P are letters 0 to 4: parts of the next letter, joined by signs. */
    private void readJoined(int letter, int open) {
      if (letter >= JOINED_LETTERS) {
        readQ(open);
        return;
      }
      readJoined(letter + 1, open);
      int most = letter == COMPARED ? 1 : TAPE_BYTES;
      for (int i = 0; i < most && nextIs(signsOf(letter)); i++) {
        int sign = next();
        at++;
        readJoined(letter + 1, open);
        read.add(sign, 0);
      }
    }

    private void readQ(int open) {
      int b = next();
      if (within(b, '0', '9')) {
        readNumber();
      } else if (nextIs(names)) {
        read.add(Text.NAME, names.indexOf((char) b));
        at++;
      } else if (b == '!' && open < MOST_OPEN) {
        at++;
        readQ(open + 1);
        read.add('!', 0);
      } else if (b == '(' && open < MOST_OPEN) {
        at++;
        readJoined(0, open + 1);
        if (nextIs(")")) {
          at++;
        } else {
          fail();
        }
      } else {
        fail();
      }
    }

    private void readNumber() {
      int number = 0;
      for (int i = 0; i < MOST_DIGITS && within(next(), '0', '9'); i++) {
        number = number * 10 + next() - '0';
        at++;
      }
      read.add(Text.NUMBER, number);
    }
  }

  /** Says VOICES by the BODIES of KINDS and keeps THE TRACE. */
  private static final class Speaker {
    private static final int MOST_TRACE = 30;
    private static final int MOST_DEPTH = 40;
    // For each KIND its BODY of each VOICE; 0: it has none.
    private static final int[] BODIES = {
      10, 11, 12, 13,
      20, 0, 0, 21,
      0, 30, 0, 0,
      41, 0, 40, 0,
      50, 0, 0, 0,
      0, 60, 61, 0,
      70, 0, 0, 71};

    final int[] trace = new int[MOST_TRACE];
    int traced = 0;
    boolean parted = false;
    private int kind = 0;
    private int m = 0;
    private int number = 0;

    /** What is said; THE TRACE of one that is PARTED ends there, as none begins behind it. */
    int speak(int itsKind, int itsM, int itsNumber, int voice, int x) {
      kind = itsKind;
      m = itsM;
      number = itsNumber;
      traced = 0;
      parted = false;
      return own(voice, x, 0);
    }

    private int own(int voice, int x, int depth) {
      return from(kind, voice, x, depth);
    }

    private int above(int bodysKind, int voice, int x, int depth) {
      return within(bodysKind, 0, KINDS - 1) ? from(KIND_ABOVE[bodysKind], voice, x, depth) : 0;
    }

    private int from(int lowest, int voice, int x, int depth) {
      if (parted) {
        return 0;
      }
      int k = lowest;
      for (int i = 0; i < KINDS && within(k, 0, KINDS - 1); i++) {
        int body = BODIES[k * VOICES + voice];
        if (body != 0) {
          return depth < MOST_DEPTH ? work(body, x, depth + 1) : 0;
        }
        k = KIND_ABOVE[k];
      }
      return 0;
    }

    private int work(int body, int x, int depth) {
      begin(body);
      switch (body) {
        case 10: return x + number;
        case 11: return own(CALLS, x, depth) * 2;
        case 12: return own(GOES, x, depth) - m;
        case 13: return parts(x);
        case 20: return above(LOUD, CALLS, x, depth) - 4;
        case 21: return above(LOUD, PAYS, x, depth) + own(GOES, 1, depth);
        case 30: return 0 - above(HOLD, GOES, x, depth);
        case 40: return above(LEAGUE, RESTS, x / 2, depth);
        case 41: return above(LEAGUE, CALLS, x, depth) ^ number;
        case 50: return 8;
        case 60: return above(TOLD, GOES, x + 1, depth);
        case 61: return above(TOLD, RESTS, x, depth) * 3;
        case 70: return above(AHEAD, CALLS, x, depth) + m;
        case 71: return above(AHEAD, PAYS, x, depth) - own(RESTS, 0, depth);
        default: return 0;
      }
    }

    private void begin(int body) {
      if (traced < MOST_TRACE) {
        trace[traced] = body;
        traced++;
      }
    }

    private int parts(int x) {
      int by = m - number;
      if (by == 0) {
        parted = true;
        return 0;
      }
      return x / by;
    }
  }

  /** A row of 8, 16 or 32 bits; of 0 bits: missing. */
  private static final class Sheet {
    final int[] numbers = new int[SHEET_NUMBERS];
    int bits = 0;
    int length = 0;

    boolean isMissing() {
      return bits == 0;
    }

    void lay(int itsBits, int itsLength) {
      bits = itsBits;
      length = itsLength;
      for (int i = 0; i < SHEET_NUMBERS; i++) {
        numbers[i] = 0;
      }
    }

    void write(int i, int v) {
      switch (bits) {
        case 8: numbers[i] = (byte) v; break;
        case 16: numbers[i] = (short) v; break;
        default: numbers[i] = v; break;
      }
    }

    boolean hasRun(int i, int n) {
      return n >= 0 && i >= 0 && i <= length && n <= length - i;
    }
  }
}
