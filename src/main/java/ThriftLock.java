import java.util.Arrays;

/** A lock with side basins: its water, its boats, its ledger, and what turns to come would take. */
public final class ThriftLock {
  public static final int NONE = -1, BAD = -2, NOT = -3, FULL = -4;

  private static final int DOWN = 0, UP = 1;
  private static final int NULL = 1, INDEX = 2, CAST = 3, STORE = 4, SIZE = 5;
  private static final int LEAST_INT = -2147483648;

  private static final int SIXTHS = 6;
  private static final int FIRST_HEAD = 30, MOST_HEAD = 60;
  private static final int MOST_BASINS = 4, BOTTOMS = 60, MOST_ROOM = 60, MOST_WIDE = 3, MOST_LEAK = 3;
  private static final int MOST_WAITING = 16, MOST_BOATS = 100;
  private static final int MOST_TURNS = 60, COLUMNS = 9, FIRST_BASIN_COLUMN = 5;
  private static final int SHEETS = 4, FORMS = 3, MOST_ITEMS = 60;
  private static final int MOST_AHEAD = 40, TURNS_WEIGHED = 10, LAST_STEP_TOLD = 40;
  // Above what any number of turns that is asked for can draw (40 turns of 60 slices).
  private static final int NO_CAP = 1000000;
  // A choice and what is drawn by it go into one int, so that one search tells both.
  private static final int CHOICE_BITS = 6, CHOICE_MASK = 63;

  private final Water water = new Water();
  private final Water trial = new Water();
  private final Queue[] queues = new Queue[2];
  private final Sheet[] sheets = new Sheet[SHEETS];
  private final int[] rows = new int[MOST_TURNS * COLUMNS];
  private int turnsKept;
  private int turnsEver;
  private int drawnEver;
  private int lostEver;
  private int leakedEver;
  private int boatsCame;
  private int ruleNow;
  private int latestFinding;

  public ThriftLock() {
    queues[DOWN] = new Queue();
    queues[UP] = new Queue();
    for (int s = 0; s < SHEETS; s++) {
      sheets[s] = new Sheet();
    }
  }

  // ---- the chamber, basins

  public int head(int h) {
    if (h < 1 || h > MOST_HEAD) {
      return BAD;
    }
    if (water.inChamber != 0) {
      return NOT;
    }
    int before = water.fullAt;
    water.fullAt = h;
    return before;
  }

  public int basin(int bottom, int room, int wide) {
    if (!mayBeBasin(bottom, room, wide)) {
      return BAD;
    }
    if (water.basins >= MOST_BASINS) {
      return FULL;
    }
    water.addBasin(bottom, room, wide);
    return water.basins;
  }

  public int back() {
    int last = water.basins - 1;
    if (last < 0 || water.held[last] != 0) {
      return NOT;
    }
    water.basins = last;
    water.outBits &= ~(1 << last);
    return last;
  }

  public int out(int i) {
    if (!isBasin(i)) {
      return BAD;
    }
    water.outBits ^= 1 << i;
    return water.outBits;
  }

  public int leak(int i, int n) {
    if (!isBasin(i) || n < 0 || n > MOST_LEAK) {
      return BAD;
    }
    int before = water.leaks[i];
    water.leaks[i] = n;
    return before;
  }

  public int read(int s) {
    if (!isSheet(s)) {
      return BAD;
    }
    Sheet sheet = sheets[s];
    if (sheet.lost) {
      return found(NULL);
    }
    int came = 0;
    for (int k = 0; k + 2 < sheet.size && water.basins < MOST_BASINS; k += 3) {
      if (!mayBeBasin(sheet.items[k], sheet.items[k + 1], sheet.items[k + 2])) {
        break;
      }
      water.addBasin(sheet.items[k], sheet.items[k + 1], sheet.items[k + 2]);
      came++;
    }
    return came;
  }

  public int info(int i, int what) {
    if (!isBasin(i)) {
      return BAD;
    }
    switch (what) {
      case 0: return water.bottom[i];
      case 1: return water.room[i];
      case 2: return water.wide[i];
      case 3: return water.leaks[i];
      case 4: return water.held[i];
      case 5: return water.levelHolding(i, water.held[i]);
      case 6: return water.isOut(i) ? 1 : 0;
      default: return BAD;
    }
  }

  public int chamber(int what) {
    switch (what) {
      case 0: return water.inChamber;
      case 1: return SIXTHS * water.inChamber;
      case 2: return water.fullAt;
      default: return BAD;
    }
  }

  private boolean isBasin(int i) {
    return i >= 0 && i < water.basins;
  }

  private static boolean mayBeBasin(int bottom, int room, int wide) {
    return bottom >= 0 && bottom < BOTTOMS
        && room >= 1 && room <= MOST_ROOM
        && wide >= 1 && wide <= MOST_WIDE;
  }

  // ---- boats

  public int boat(int way) {
    if (!isWay(way)) {
      return BAD;
    }
    if (queues[way].size >= MOST_WAITING || boatsCame >= MOST_BOATS) {
      return FULL;
    }
    int number = boatsCame;
    queues[way].append(number);
    boatsCame++;
    return number;
  }

  public int leave(int boat) {
    if (boat < 0) {
      return BAD;
    }
    for (int way = DOWN; way <= UP; way++) {
      int place = queues[way].placeOf(boat);
      if (place != NONE) {
        queues[way].removeAt(place);
        return queues[way].size;
      }
    }
    return NOT;
  }

  public int waits(int way, int i) {
    if (!isWay(way) || i < NONE || i >= MOST_WAITING) {
      return BAD;
    }
    return i == NONE ? queues[way].size : queues[way].boatAt(i);
  }

  public int rule(int v) {
    if (v != 0 && v != 1) {
      return BAD;
    }
    int before = ruleNow;
    ruleNow = v;
    return before;
  }

  public int serve() {
    int way = wayServedNext();
    if (way == NONE) {
      return NOT;
    }
    int turns = turnsToServe(way);
    if (turnsKept + turns > MOST_TURNS) {
      return FULL;
    }
    if (turns == 2) {
      makeTurnFor(NONE);
    }
    int boat = queues[way].boatAt(0);
    queues[way].removeAt(0);
    makeTurnFor(boat);
    return boat;
  }

  public int next(int what) {
    if (what != 0 && what != 1) {
      return BAD;
    }
    int way = wayServedNext();
    if (way == NONE) {
      return what == 0 ? NONE : 0;
    }
    return what == 0 ? queues[way].boatAt(0) : turnsToServe(way);
  }

  private static boolean isWay(int way) {
    return way == DOWN || way == UP;
  }

  private int wayAtChamber() {
    return water.inChamber == 0 ? UP : DOWN;
  }

  private int wayServedNext() {
    int down = queues[DOWN].boatAt(0);
    int up = queues[UP].boatAt(0);
    if (down == NONE) {
      return up == NONE ? NONE : UP;
    }
    if (up == NONE) {
      return DOWN;
    }
    if (ruleNow == 1) {
      return wayAtChamber();
    }
    return down < up ? DOWN : UP;
  }

  private int turnsToServe(int way) {
    return way == wayAtChamber() ? 1 : 2;
  }

  // ---- turns

  public int turn() {
    if (turnsKept >= MOST_TURNS) {
      return FULL;
    }
    makeTurnFor(NONE);
    return water.outside;
  }

  public int ledger(int i, int what) {
    if (i < 0 || i >= turnsKept || what < 0 || what >= COLUMNS) {
      return BAD;
    }
    return rows[i * COLUMNS + what];
  }

  public int wipe() {
    int before = turnsKept;
    turnsKept = 0;
    return before;
  }

  public int total(int what) {
    switch (what) {
      case 0: return drawnEver;
      case 1: return lostEver;
      case 2: return leakedEver;
      case 3: return water.heldInAll();
      case 4: return turnsEver;
      default: return BAD;
    }
  }

  /** The caller has seen that the ledger has room for one turn more. */
  private void makeTurnFor(int boat) {
    boolean filled = water.inChamber == 0;
    water.makeTurn();
    if (filled) {
      drawnEver += water.outside;
    } else {
      lostEver += water.outside;
    }
    leakedEver += water.leaked;
    turnsEver++;
    if (turnsKept < MOST_TURNS) {
      enterTurn(boat, filled);
    }
  }

  private void enterTurn(int boat, boolean filled) {
    int row = turnsKept * COLUMNS;
    rows[row] = boat;
    rows[row + 1] = filled ? 1 : 0;
    rows[row + 2] = water.fullAt - water.outside;
    rows[row + 3] = water.outside;
    rows[row + 4] = water.leaked;
    for (int i = 0; i < MOST_BASINS; i++) {
      rows[row + FIRST_BASIN_COLUMN + i] = water.moved[i];
    }
    turnsKept++;
  }

  // ---- what would be

  public int step(int i) {
    if (i < NONE || i >= MOST_HEAD) {
      return BAD;
    }
    if (i == NONE) {
      return water.fullAt;
    }
    if (i >= water.fullAt) {
      return NONE;
    }
    tryTurn();
    return trial.steps[i];
  }

  public int ahead(int n) {
    if (n < 0 || n > MOST_AHEAD) {
      return BAD;
    }
    trial.becomeLike(water);
    return trial.drawnBy(n, NO_CAP);
  }

  public int better(int i, int what) {
    if (!isBasin(i) || what < 0 || what > 1) {
      return BAD;
    }
    return partOfChoice(bestBottom(i), what);
  }

  public int needless(int what) {
    if (what < 0 || what > 1) {
      return BAD;
    }
    return partOfChoice(leastNeeded(), what);
  }

  private void tryTurn() {
    trial.becomeLike(water);
    trial.makeTurn();
  }

  private static int choiceOf(int choice, int drawn) {
    return drawn << CHOICE_BITS | choice;
  }

  private static int partOfChoice(int both, int what) {
    if (both == NONE) {
      return NONE;
    }
    return what == 0 ? both & CHOICE_MASK : both >> CHOICE_BITS;
  }

  private int bestBottom(int i) {
    int best = NONE;
    int least = NO_CAP;
    for (int bottom = 0; bottom < BOTTOMS; bottom++) {
      trial.becomeLike(water);
      trial.bottom[i] = bottom;
      int drawn = trial.drawnBy(TURNS_WEIGHED, least);
      if (drawn < least) {
        least = drawn;
        best = choiceOf(bottom, drawn);
      }
    }
    return best;
  }

  private int leastNeeded() {
    int best = NONE;
    int least = NO_CAP;
    for (int i = 0; i < water.basins; i++) {
      if (water.isOut(i)) {
        continue;
      }
      trial.becomeLike(water);
      trial.outBits |= 1 << i;
      int drawn = trial.drawnBy(TURNS_WEIGHED, least);
      if (drawn < least) {
        least = drawn;
        best = choiceOf(i, drawn);
      }
    }
    return best;
  }

  // ---- sheets

  public int sheet(int s, int form, int n) {
    if (!isSheet(s) || !isForm(form) || n > MOST_ITEMS) {
      return BAD;
    }
    if (n < 0) {
      return found(SIZE);
    }
    sheets[s].renew(form, n);
    return n;
  }

  public int lose(int s) {
    if (!isSheet(s)) {
      return BAD;
    }
    if (sheets[s].lost) {
      return found(NULL);
    }
    sheets[s].lost = true;
    return sheets[s].size;
  }

  public int lay(int s, int form, int i, int v) {
    if (!isSheet(s) || !isForm(form)) {
      return BAD;
    }
    int wrong = sheets[s].faultAt(form, i);
    if (wrong != 0) {
      return found(wrong);
    }
    sheets[s].put(i, v);
    return 1;
  }

  public int get(int s, int form, int i) {
    if (!isSheet(s) || !isForm(form)) {
      return LEAST_INT;
    }
    int wrong = sheets[s].faultAt(form, i);
    if (wrong != 0) {
      found(wrong);
      return LEAST_INT;
    }
    return sheets[s].items[i];
  }

  public int copy(int s, int i, int t, int j, int n) {
    if (!isSheet(s) || !isSheet(t)) {
      return BAD;
    }
    Sheet from = sheets[s];
    Sheet to = sheets[t];
    if (from.lost || to.lost) {
      return found(NULL);
    }
    if (from.form != to.form) {
      return found(STORE);
    }
    if (!from.hasSpan(i, n) || !to.hasSpan(j, n)) {
      return found(INDEX);
    }
    System.arraycopy(from.items, i, to.items, j, n);
    return 1;
  }

  public int write(int s) {
    if (!isSheet(s)) {
      return BAD;
    }
    Sheet sheet = sheets[s];
    if (sheet.lost) {
      return found(NULL);
    }
    tryTurn();
    int many = Math.min(sheet.size, water.fullAt);
    for (int i = 0; i < many; i++) {
      sheet.put(i, trial.steps[i]);
    }
    return many;
  }

  public int count(int what) {
    switch (what) {
      case 0: return water.basins;
      case 1: return queues[DOWN].size + queues[UP].size;
      case 2: return turnsKept;
      case 3: return water.inChamber;
      case 4: return water.heldInAll();
      case 5: return drawnEver;
      case 6: return lostEver;
      case 7: return boatsCame;
      case 8: return latestFinding;
      default: return BAD;
    }
  }

  public long digest() {
    long h = 17;
    for (int what = 0; what <= 7; what++) {
      h = fold(h, count(what));
    }
    h = foldBasins(h);
    h = foldBoats(h);
    h = foldTurns(h);
    return foldWhatWouldBe(h);
  }

  private static long fold(long h, int v) {
    return 31 * h + v;
  }

  private long foldBasins(long before) {
    long h = before;
    for (int i = 0; i < water.basins; i++) {
      for (int what = 0; what <= 6; what++) {
        h = fold(h, info(i, what));
      }
      int best = bestBottom(i);
      h = fold(h, partOfChoice(best, 0));
      h = fold(h, partOfChoice(best, 1));
    }
    for (int what = 0; what <= 2; what++) {
      h = fold(h, chamber(what));
    }
    return h;
  }

  private long foldBoats(long before) {
    long h = before;
    for (int way = DOWN; way <= UP; way++) {
      h = fold(h, waits(way, NONE));
      h = fold(h, waits(way, 0));
      h = fold(h, waits(way, 3));
    }
    h = fold(h, next(0));
    return fold(h, next(1));
  }

  private long foldTurns(long before) {
    long h = before;
    for (int i = 0; i < turnsKept; i++) {
      for (int what = 0; what < COLUMNS; what++) {
        h = fold(h, ledger(i, what));
      }
    }
    for (int what = 0; what <= 4; what++) {
      h = fold(h, total(what));
    }
    return h;
  }

  private long foldWhatWouldBe(long before) {
    long h = fold(before, water.fullAt);
    tryTurn();
    for (int i = 0; i <= LAST_STEP_TOLD; i++) {
      h = fold(h, i < water.fullAt ? trial.steps[i] : NONE);
    }
    h = fold(h, ahead(1));
    h = fold(h, ahead(2));
    h = fold(h, ahead(TURNS_WEIGHED));
    int least = leastNeeded();
    h = fold(h, partOfChoice(least, 0));
    return fold(h, partOfChoice(least, 1));
  }

  private static boolean isSheet(int s) {
    return s >= 0 && s < SHEETS;
  }

  private static boolean isForm(int form) {
    return form >= 0 && form < FORMS;
  }

  private int found(int finding) {
    latestFinding = finding;
    return -10 - finding;
  }

  /** The chamber and its basins, with all that turns change: a second one can try turns out. */
  private static final class Water {
    int fullAt = FIRST_HEAD;
    int inChamber;
    int basins;
    int outBits;
    final int[] bottom = new int[MOST_BASINS];
    final int[] room = new int[MOST_BASINS];
    final int[] wide = new int[MOST_BASINS];
    final int[] rise = new int[MOST_BASINS];
    final int[] leaks = new int[MOST_BASINS];
    final int[] held = new int[MOST_BASINS];

    // What the latest turn did.
    final int[] steps = new int[MOST_HEAD];
    final int[] moved = new int[MOST_BASINS];
    int outside;
    int leaked;

    void becomeLike(Water other) {
      fullAt = other.fullAt;
      inChamber = other.inChamber;
      basins = other.basins;
      outBits = other.outBits;
      System.arraycopy(other.bottom, 0, bottom, 0, MOST_BASINS);
      System.arraycopy(other.room, 0, room, 0, MOST_BASINS);
      System.arraycopy(other.wide, 0, wide, 0, MOST_BASINS);
      System.arraycopy(other.rise, 0, rise, 0, MOST_BASINS);
      System.arraycopy(other.leaks, 0, leaks, 0, MOST_BASINS);
      System.arraycopy(other.held, 0, held, 0, MOST_BASINS);
    }

    /** The caller has seen that there is room for one basin more. */
    void addBasin(int itsBottom, int itsRoom, int itsWide) {
      int i = basins;
      if (i >= MOST_BASINS) {
        return;
      }
      bottom[i] = itsBottom;
      room[i] = itsRoom;
      wide[i] = itsWide;
      rise[i] = riseOf(itsWide);
      leaks[i] = 0;
      held[i] = 0;
      basins++;
    }

    // Told case by case, so that nothing is divided by a number that came from outside.
    private static int riseOf(int wide) {
      switch (wide) {
        case 1: return SIXTHS;
        case 2: return SIXTHS / 2;
        default: return SIXTHS / 3;
      }
    }

    boolean isOut(int i) {
      return (outBits >> i & 1) != 0;
    }

    int levelHolding(int i, int slices) {
      return SIXTHS * bottom[i] + rise[i] * slices;
    }

    int heldInAll() {
      int sum = 0;
      for (int i = 0; i < basins; i++) {
        sum += held[i];
      }
      return sum;
    }

    int drawnBy(int turns, int cap) {
      int drawn = 0;
      // Whoever looks for the least needs no more once the cap is reached.
      for (int k = 0; k < turns && drawn < cap; k++) {
        boolean fills = inChamber == 0;
        makeTurn();
        if (fills) {
          drawn += outside;
        }
      }
      return drawn;
    }

    void makeTurn() {
      boolean fills = inChamber == 0;
      int slice = fills ? 1 : -1;
      Arrays.fill(moved, 0);
      outside = 0;
      for (int k = 0; k < fullAt; k++) {
        inChamber += slice;
        int basin = fills ? basinToGive(SIXTHS * inChamber) : basinToTake(SIXTHS * inChamber);
        steps[k] = basin;
        if (basin == NONE) {
          outside++;
        } else {
          held[basin] -= slice;
          moved[basin]++;
        }
      }
      loseByLeaks();
    }

    private int basinToGive(int chamberLevel) {
      int best = NONE;
      int bestLevel = 0;
      for (int i = 0; i < basins; i++) {
        if (isOut(i) || held[i] < 1) {
          continue;
        }
        int level = levelHolding(i, held[i] - 1);
        if (level >= chamberLevel && (best == NONE || level < bestLevel)) {
          best = i;
          bestLevel = level;
        }
      }
      return best;
    }

    private int basinToTake(int chamberLevel) {
      int best = NONE;
      int bestLevel = 0;
      for (int i = 0; i < basins; i++) {
        if (isOut(i) || held[i] >= room[i]) {
          continue;
        }
        int level = levelHolding(i, held[i] + 1);
        if (level <= chamberLevel && (best == NONE || level > bestLevel)) {
          best = i;
          bestLevel = level;
        }
      }
      return best;
    }

    private void loseByLeaks() {
      leaked = 0;
      for (int i = 0; i < basins; i++) {
        int gone = Math.min(leaks[i], held[i]);
        held[i] -= gone;
        leaked += gone;
      }
    }
  }

  /** The boats that wait on one side, in the order they came. */
  private static final class Queue {
    final int[] boats = new int[MOST_WAITING];
    int size;

    int boatAt(int i) {
      return i >= 0 && i < size ? boats[i] : NONE;
    }

    void append(int boat) {
      if (size < MOST_WAITING) {
        boats[size] = boat;
        size++;
      }
    }

    int placeOf(int boat) {
      for (int i = 0; i < size; i++) {
        if (boats[i] == boat) {
          return i;
        }
      }
      return NONE;
    }

    void removeAt(int place) {
      if (place < 0 || place >= size) {
        return;
      }
      System.arraycopy(boats, place + 1, boats, place, size - place - 1);
      size--;
    }
  }

  /** A row of items of one form; its place is kept while it is lost, so that a new row needs no new array. */
  private static final class Sheet {
    boolean lost = true;
    int form;
    int size;
    final int[] items = new int[MOST_ITEMS];

    void renew(int itsForm, int itsSize) {
      lost = false;
      form = itsForm;
      size = itsSize;
      Arrays.fill(items, 0);
    }

    /** The number of the finding that stands against item i treated as of a form; 0: none does. */
    int faultAt(int asForm, int i) {
      if (lost) {
        return NULL;
      }
      if (form != asForm) {
        return CAST;
      }
      return i < 0 || i >= size ? INDEX : 0;
    }

    boolean hasSpan(int from, int many) {
      return from >= 0 && many >= 0 && many <= size - from;
    }

    void put(int i, int v) {
      switch (form) {
        case 0: items[i] = (byte) v; break;
        case 1: items[i] = (short) v; break;
        default: items[i] = v; break;
      }
    }
  }
}
