import java.util.Arrays;

/**
 * A hall in which parts are grown from powder by light. The words in capitals are the terms of the
 * document, and each public method keeps the promise that bears its name there.
 */
public final class MeltPool {
  private static final int NONE = -1;

  private static final int PIECES = 4;
  private static final int POWDERS = 6;
  private static final int MACHINES = 2;
  private static final int ALLOYS = 3;
  private static final int WAYS = 6;

  private static final int SIDE = 8;
  private static final int LAYERS = 8;
  private static final int PLACES = 64;
  /** The places with x of 0, and those with x of 7. */
  private static final long FIRST_COLUMN = 0x0101010101010101L;
  private static final long LAST_COLUMN = 0x8080808080808080L;

  private static final int MOST_GRAMS = 2000;
  private static final int MOST_USES_TO_LOAD = 4;
  private static final int OTHER_DUST = -2;
  private static final int WORN = -3;

  private static final int LEAST_POWER = 50;
  private static final int MOST_POWER = 400;
  private static final int MOST_SPEED = 20;
  private static final int DIGEST_POWER = 200;

  private static final int SOLID = 0;
  private static final int GROWING = 1;
  private static final int GROWN = 2;
  private static final int RELIEVED = 3;
  private static final int SAWN = 4;
  private static final int ACCEPTED = 5;
  private static final int SCRAP = 6;

  private static final int NOT_PROVED = 1;
  private static final int NOT_DENSE = 2;
  private static final int STOPPED_OFTEN = 3;

  private static final int ASKS_OF_ALL = 8;
  private static final int ASKS_OF_PIECE = 15;
  private static final int ASKS_OF_LAYER = 3;
  private static final int ASKS_OF_POWDER = 5;
  private static final int ASKS_OF_MACHINE = 5;

  private final Piece[] pieces = new Piece[PIECES];
  private final Powder[] powders = new Powder[POWDERS];
  private final Machine[] machines = new Machine[MACHINES];
  private int pieceCount;
  private int powderCount;
  private int strikes;
  private int layersDone;

  // What would be is tried on these two, so that no call makes objects.
  private final Solid trialSolid = new Solid();
  private final Melt trialMelt = new Melt();

  public MeltPool() {
    for (int i = 0; i < PIECES; i++) {
      pieces[i] = new Piece(i);
    }
    for (int i = 0; i < POWDERS; i++) {
      powders[i] = new Powder(i);
    }
    for (int i = 0; i < MACHINES; i++) {
      machines[i] = new Machine(i);
    }
  }

  // ---- solids

  public int piece() throws IllegalStateException {
    if (pieceCount >= PIECES) {
      throw new IllegalStateException("there are 4 pieces");
    }
    pieceCount++;
    return pieceCount - 1;
  }

  public int layer(int piece, int layer, long cells)
      throws IndexOutOfBoundsException, IllegalStateException {
    Piece told = pieceAt(piece);
    checkLayer(layer);
    checkSolid(told);
    told.solid.tell(layer, cells);
    return Long.bitCount(cells);
  }

  public int lay(int piece, int way)
      throws IndexOutOfBoundsException, IllegalArgumentException, IllegalStateException {
    Piece laid = pieceAt(piece);
    checkWay(way);
    checkSolid(laid);
    trialSolid.becomeLaid(laid.solid, way);
    laid.solid.becomeCopy(trialSolid);
    return laid.solid.height();
  }

  // ---- powders and machines

  public int powder(int alloy, int grams) throws IllegalArgumentException, IllegalStateException {
    if (alloy < 0 || alloy >= ALLOYS) {
      throw new IllegalArgumentException("no such alloy");
    }
    if (grams < 1 || grams > MOST_GRAMS) {
      throw new IllegalArgumentException("grams are not 1 to 2000");
    }
    if (powderCount >= POWDERS) {
      throw new IllegalStateException("there are 6 powders");
    }
    Powder told = powders[powderCount];
    told.alloy = alloy;
    told.grams = grams;
    powderCount++;
    return told.number;
  }

  public int blend(int first, int second)
      throws IndexOutOfBoundsException, IllegalArgumentException, IllegalStateException {
    Powder into = powderAt(first);
    Powder from = powderAt(second);
    if (first == second) {
      throw new IllegalArgumentException("both are the same powder");
    }
    if (into.alloy != from.alloy) {
      throw new IllegalArgumentException("the alloys differ");
    }
    if (into.machine != NONE || from.machine != NONE) {
      throw new IllegalStateException("a powder is in a machine");
    }
    into.takeIn(from);
    return into.grams;
  }

  public int load(int machine, int powder)
      throws IndexOutOfBoundsException, IllegalStateException {
    Machine loaded = machineAt(machine);
    Powder put = powderAt(powder);
    if (loaded.powder != null) {
      throw new IllegalStateException("a powder is in the machine");
    }
    if (put.machine != NONE) {
      throw new IllegalStateException("the powder is in a machine");
    }
    if (put.grams == 0) {
      throw new IllegalStateException("the powder has no grams");
    }
    if (loaded.dust != NONE && loaded.dust != put.alloy) {
      return OTHER_DUST;
    }
    if (put.uses > MOST_USES_TO_LOAD) {
      return WORN;
    }
    loaded.putIn(put);
    return loaded.load;
  }

  public int unload(int machine) throws IndexOutOfBoundsException, IllegalStateException {
    Machine unloaded = machineAt(machine);
    Powder taken = unloaded.powder;
    if (taken == null) {
      throw new IllegalStateException("no powder is in the machine");
    }
    if (unloaded.growing != null) {
      throw new IllegalStateException("a piece is growing in the machine");
    }
    unloaded.giveBack(unloaded.load);
    return taken.grams;
  }

  public int clean(int machine) throws IndexOutOfBoundsException {
    Machine cleaned = machineAt(machine);
    cleaned.giveBack(cleaned.load * 9 / 10);
    cleaned.dust = NONE;
    if (cleaned.growing != null) {
      cleaned.growing.state = SCRAP;
      cleaned.growing = null;
    }
    int lost = cleaned.proofCount;
    cleaned.proofCount = 0;
    return lost;
  }

  // ---- growing

  public int start(int machine, int piece, int power, int speed)
      throws IndexOutOfBoundsException, IllegalArgumentException, IllegalStateException {
    Machine used = machineAt(machine);
    Piece started = pieceAt(piece);
    checkPower(power);
    if (speed < 1 || speed > MOST_SPEED) {
      throw new IllegalArgumentException("speed is not 1 to 20");
    }
    checkSolid(started);
    if (started.solid.height() == 0) {
      throw new IllegalStateException("the piece has no cells");
    }
    if (used.growing != null) {
      throw new IllegalStateException("a piece is growing in the machine");
    }
    Powder fed = used.powder;
    if (fed == null) {
      throw new IllegalStateException("no powder is in the machine");
    }
    started.begin(used, fed, power, speed);
    used.growing = started;
    return started.solid.height();
  }

  public int grow(int machine, int layers)
      throws IndexOutOfBoundsException, IllegalArgumentException, IllegalStateException {
    Machine used = machineAt(machine);
    if (layers < 1 || layers > LAYERS) {
      throw new IllegalArgumentException("layers are not 1 to 8");
    }
    checkGrowing(used);
    int done = 0;
    while (done < layers && growNext(used)) {
      done++;
    }
    return done;
  }

  public int stop(int machine) throws IndexOutOfBoundsException, IllegalStateException {
    Machine stopped = machineAt(machine);
    Piece held = checkGrowing(stopped);
    held.melt.cool();
    held.stops++;
    return held.stops;
  }

  /** Grows the next LAYER and tells whether it was done: not if none is growing or it is SHORT. */
  private boolean growNext(Machine used) {
    Piece grown = used.growing;
    if (grown == null || grown.done >= grown.solid.height()) {
      return false;
    }
    int needed = grown.solid.gramsOf(grown.done);
    if (used.load < needed) {
      return false;
    }
    used.load -= needed;
    grown.addLayer();
    layersDone++;
    if (grown.isStruck()) {
      strikes++;
      grown.state = SCRAP;
      used.growing = null;
    } else if (grown.done >= grown.solid.height()) {
      grown.state = GROWN;
      used.growing = null;
    }
    return true;
  }

  // ---- behind it

  public int relieve(int piece) throws IndexOutOfBoundsException, IllegalStateException {
    Piece relieved = pieceAt(piece);
    if (relieved.state != GROWN) {
      throw new IllegalStateException("the piece is not grown");
    }
    relieved.state = RELIEVED;
    return relieved.melt.lacks;
  }

  public boolean saw(int piece) throws IndexOutOfBoundsException, IllegalStateException {
    Piece sawn = pieceAt(piece);
    if (sawn.state != GROWN && sawn.state != RELIEVED) {
      throw new IllegalStateException("the piece is not grown or relieved");
    }
    sawn.state = sawn.state == RELIEVED ? SAWN : SCRAP;
    return sawn.state == SAWN;
  }

  public int press(int piece) throws IndexOutOfBoundsException, IllegalStateException {
    Piece pressed = pieceAt(piece);
    if (pressed.state != RELIEVED && pressed.state != SAWN) {
      throw new IllegalStateException("the piece is not relieved or sawn");
    }
    pressed.melt.lacks = pressed.melt.lacks / 4;
    return pressed.melt.lacks;
  }

  public boolean prove(int piece) throws IndexOutOfBoundsException, IllegalStateException {
    Piece tried = pieceAt(piece);
    checkSawn(tried);
    if (tried.machine == null || !tried.isDense()) {
      return false;
    }
    tried.machine.addProof(tried.window);
    return true;
  }

  public int accept(int piece) throws IndexOutOfBoundsException, IllegalStateException {
    Piece judged = pieceAt(piece);
    checkSawn(judged);
    if (judged.machine == null || !judged.machine.hasProof(judged.window)) {
      return NOT_PROVED;
    }
    if (!judged.isDense()) {
      return NOT_DENSE;
    }
    if (judged.stops > 1) {
      return STOPPED_OFTEN;
    }
    judged.state = ACCEPTED;
    return 0;
  }

  // ---- what one asks

  public int ofPiece(int piece, int what)
      throws IndexOutOfBoundsException, IllegalArgumentException {
    Piece asked = pieceAt(piece);
    switch (what) {
      case 0:
        return asked.state;
      case 1:
        return asked.solid.height();
      case 2:
        return asked.solid.cellCount();
      case 3:
        return asked.solid.hangingCount();
      case 4:
        return asked.solid.islandCount();
      case 5:
        return asked.solid.supportCount();
      case 6:
        return asked.done;
      case 7:
        return asked.melt.lacks;
      case 8:
        return asked.melt.holes;
      case 9:
        return asked.stops;
      case 10:
        return asked.machine == null ? NONE : asked.machine.number;
      case 11:
        return asked.power;
      case 12:
        return asked.speed;
      case 13:
        return asked.uses;
      case 14:
        return asked.past;
      default:
        throw new IllegalArgumentException("what is not 0 to 14");
    }
  }

  public long ofLayer(int piece, int layer, int what)
      throws IndexOutOfBoundsException, IllegalArgumentException {
    Piece asked = pieceAt(piece);
    checkLayer(layer);
    switch (what) {
      case 0:
        return asked.solid.cells[layer];
      case 1:
        return asked.solid.hanging[layer];
      case 2:
        return asked.solid.support[layer];
      default:
        throw new IllegalArgumentException("what is not 0 to 2");
    }
  }

  public int ofPowder(int powder, int what)
      throws IndexOutOfBoundsException, IllegalArgumentException {
    Powder asked = powderAt(powder);
    switch (what) {
      case 0:
        return asked.alloy;
      case 1:
        return asked.grams;
      case 2:
        return asked.uses;
      case 3:
        return asked.past;
      case 4:
        return asked.machine;
      default:
        throw new IllegalArgumentException("what is not 0 to 4");
    }
  }

  public int ofMachine(int machine, int what)
      throws IndexOutOfBoundsException, IllegalArgumentException {
    Machine asked = machineAt(machine);
    switch (what) {
      case 0:
        return asked.dust;
      case 1:
        return asked.powder == null ? NONE : asked.powder.number;
      case 2:
        return asked.load;
      case 3:
        return asked.growing == null ? NONE : asked.growing.number;
      case 4:
        return asked.proofCount;
      default:
        throw new IllegalArgumentException("what is not 0 to 4");
    }
  }

  public double warm(int machine, int x, int y) throws IndexOutOfBoundsException {
    Machine asked = machineAt(machine);
    if (x < 0 || x >= SIDE || y < 0 || y >= SIDE) {
      throw new IndexOutOfBoundsException("no such place");
    }
    return asked.growing == null ? 0.0 : asked.growing.melt.warmth[x + SIDE * y];
  }

  public double measure(int piece, int what)
      throws IndexOutOfBoundsException, IllegalArgumentException {
    Piece asked = pieceAt(piece);
    switch (what) {
      case 0:
        return asked.density();
      case 1:
        return asked.curl;
      default:
        throw new IllegalArgumentException("what is not 0 or 1");
    }
  }

  public int recall(int powder) throws IndexOutOfBoundsException {
    Powder asked = powderAt(powder);
    int set = 0;
    for (int i = 0; i < pieceCount; i++) {
      if (pieces[i].machine != null && (pieces[i].past & 1 << asked.number) != 0) {
        set |= 1 << i;
      }
    }
    return set;
  }

  public int many(int what) throws IllegalArgumentException {
    switch (what) {
      case 0:
        return pieceCount;
      case 1:
        return powderCount;
      case 2:
        return proofsOfAll();
      case 3:
        return piecesThatAre(ACCEPTED);
      case 4:
        return piecesThatAre(SCRAP);
      case 5:
        return gramsOfAll();
      case 6:
        return strikes;
      case 7:
        return layersDone;
      default:
        throw new IllegalArgumentException("what is not 0 to 7");
    }
  }

  private int proofsOfAll() {
    int count = 0;
    for (int i = 0; i < MACHINES; i++) {
      count += machines[i].proofCount;
    }
    return count;
  }

  private int piecesThatAre(int state) {
    int count = 0;
    for (int i = 0; i < pieceCount; i++) {
      if (pieces[i].state == state) {
        count++;
      }
    }
    return count;
  }

  private int gramsOfAll() {
    int sum = 0;
    for (int i = 0; i < powderCount; i++) {
      sum += powders[i].grams;
    }
    for (int i = 0; i < MACHINES; i++) {
      sum += machines[i].load;
    }
    return sum;
  }

  // ---- what would be (nothing is changed)

  public int wouldHold(int piece, int way)
      throws IndexOutOfBoundsException, IllegalArgumentException {
    Piece asked = pieceAt(piece);
    checkWay(way);
    trialSolid.becomeLaid(asked.solid, way);
    return trialSolid.supportCount();
  }

  public int bestWay(int piece) throws IndexOutOfBoundsException {
    Piece asked = pieceAt(piece);
    int best = 0;
    int leastSupport = 0;
    int leastHeight = 0;
    for (int way = 0; way < WAYS; way++) {
      trialSolid.becomeLaid(asked.solid, way);
      int support = trialSolid.supportCount();
      int height = trialSolid.height();
      if (way == 0 || support < leastSupport
          || support == leastSupport && height < leastHeight) {
        best = way;
        leastSupport = support;
        leastHeight = height;
      }
    }
    return best;
  }

  public int bestSpeed(int piece, int power)
      throws IndexOutOfBoundsException, IllegalArgumentException {
    Piece asked = pieceAt(piece);
    checkPower(power);
    int best = 1;
    int fewest = 0;
    for (int speed = 1; speed <= MOST_SPEED; speed++) {
      int flaws = flawsAt(asked.solid, energyOf(power, speed));
      if (speed == 1 || flaws <= fewest) {
        best = speed;
        fewest = flaws;
      }
    }
    return best;
  }

  private int flawsAt(Solid solid, double energy) {
    int height = solid.height();
    trialMelt.cool();
    trialMelt.lacks = 0;
    trialMelt.holes = 0;
    for (int layer = 0; layer < height; layer++) {
      trialMelt.shine(solid.cells[layer], solid.hanging[layer], energy);
    }
    return trialMelt.lacks + trialMelt.holes;
  }

  public long digest() {
    long sum = 9608L;
    for (int what = 0; what < ASKS_OF_ALL; what++) {
      sum = sum * 31 + many(what);
    }
    for (int i = 0; i < pieceCount; i++) {
      sum = digestPiece(sum, i);
    }
    for (int i = 0; i < powderCount; i++) {
      for (int what = 0; what < ASKS_OF_POWDER; what++) {
        sum = sum * 31 + ofPowder(i, what);
      }
      sum = sum * 31 + recall(i);
    }
    for (int i = 0; i < MACHINES; i++) {
      for (int what = 0; what < ASKS_OF_MACHINE; what++) {
        sum = sum * 31 + ofMachine(i, what);
      }
    }
    return sum;
  }

  private long digestPiece(long before, int piece) {
    long sum = before;
    for (int what = 0; what < ASKS_OF_PIECE; what++) {
      sum = sum * 31 + ofPiece(piece, what);
    }
    sum = sum * 31 + (long) (measure(piece, 1) * 8);
    sum = sum * 31 + bestWay(piece);
    sum = sum * 31 + bestSpeed(piece, DIGEST_POWER);
    for (int layer = 0; layer < LAYERS; layer++) {
      for (int what = 0; what < ASKS_OF_LAYER; what++) {
        sum = sum * 31 + ofLayer(piece, layer, what);
      }
    }
    return sum;
  }

  // ---- what the calls look at first

  private Piece pieceAt(int number) {
    if (number < 0 || number >= pieceCount) {
      throw new IndexOutOfBoundsException("no such piece");
    }
    return pieces[number];
  }

  private Powder powderAt(int number) {
    if (number < 0 || number >= powderCount) {
      throw new IndexOutOfBoundsException("no such powder");
    }
    return powders[number];
  }

  private Machine machineAt(int number) {
    if (number < 0 || number >= MACHINES) {
      throw new IndexOutOfBoundsException("no such machine");
    }
    return machines[number];
  }

  private static void checkLayer(int layer) {
    if (layer < 0 || layer >= LAYERS) {
      throw new IndexOutOfBoundsException("no such layer");
    }
  }

  private static void checkWay(int way) {
    if (way < 0 || way >= WAYS) {
      throw new IllegalArgumentException("way is not 0 to 5");
    }
  }

  private static void checkPower(int power) {
    if (power < LEAST_POWER || power > MOST_POWER) {
      throw new IllegalArgumentException("power is not 50 to 400");
    }
  }

  private static void checkSolid(Piece piece) {
    if (piece.state != SOLID) {
      throw new IllegalStateException("the piece is no solid any more");
    }
  }

  private static void checkSawn(Piece piece) {
    if (piece.state != SAWN) {
      throw new IllegalStateException("the piece is not sawn");
    }
  }

  private static Piece checkGrowing(Machine machine) {
    Piece growing = machine.growing;
    if (growing == null) {
      throw new IllegalStateException("no piece is growing in the machine");
    }
    return growing;
  }

  private static double energyOf(int power, int speed) {
    return (double) power / speed / 10.0;
  }

  /** A SOLID with the sets that follow from its CELLS; these are kept up to date in it. */
  private static final class Solid {
    final long[] cells = new long[LAYERS];
    final long[] hanging = new long[LAYERS];
    final long[] support = new long[LAYERS];

    void tell(int layer, long set) {
      cells[layer] = set;
      reckonSets();
    }

    void becomeCopy(Solid other) {
      System.arraycopy(other.cells, 0, cells, 0, LAYERS);
      reckonSets();
    }

    /** The other one must not be this one: it is read while this one is written. */
    void becomeLaid(Solid other, int way) {
      Arrays.fill(cells, 0L);
      for (int z = 0; z < LAYERS; z++) {
        long set = other.cells[z];
        for (int place = 0; place < PLACES && set != 0L; place++) {
          if ((set & 1L) != 0L) {
            putLaid(place % SIDE, place / SIDE, z, way);
          }
          set = set >>> 1;
        }
      }
      lower();
      reckonSets();
    }

    private void putLaid(int x, int y, int z, int way) {
      int top = SIDE - 1;
      switch (way) {
        case 1:
          put(x, y, top - z);
          break;
        case 2:
          put(z, y, x);
          break;
        case 3:
          put(z, y, top - x);
          break;
        case 4:
          put(x, z, y);
          break;
        case 5:
          put(x, z, top - y);
          break;
        default:
          put(x, y, z);
          break;
      }
    }

    private void put(int x, int y, int z) {
      cells[z] |= 1L << x + SIDE * y;
    }

    private void lower() {
      int empty = 0;
      while (empty < LAYERS && cells[empty] == 0L) {
        empty++;
      }
      for (int layer = 0; layer < LAYERS; layer++) {
        cells[layer] = layer + empty < LAYERS ? cells[layer + empty] : 0L;
      }
    }

    private void reckonSets() {
      // Layer 0 never hangs and the top one holds up nothing: these two sets stay empty.
      long held = 0L;
      for (int layer = LAYERS - 1; layer > 0; layer--) {
        long below = cells[layer - 1];
        hanging[layer] = cells[layer] & ~withNeighbours(below);
        // Support goes on downwards from layer to layer, until the solid itself stops it.
        held = (held | hanging[layer]) & ~below;
        support[layer - 1] = held;
      }
    }

    int height() {
      int height = LAYERS;
      while (height > 0 && cells[height - 1] == 0L) {
        height--;
      }
      return height;
    }

    int gramsOf(int layer) {
      return Long.bitCount(cells[layer]) + Long.bitCount(support[layer]);
    }

    int cellCount() {
      return countOf(cells);
    }

    int hangingCount() {
      return countOf(hanging);
    }

    int supportCount() {
      return countOf(support);
    }

    int islandCount() {
      int count = 0;
      for (int layer = 1; layer < LAYERS; layer++) {
        count += islandsOf(cells[layer], cells[layer - 1]);
      }
      return count;
    }

    private static int islandsOf(long set, long below) {
      int count = 0;
      long rest = set;
      for (int i = 0; i < PLACES && rest != 0L; i++) {
        long part = partOf(set, rest & -rest);
        if ((part & below) == 0L) {
          count++;
        }
        rest &= ~part;
      }
      return count;
    }

    /** The part of the set that hangs together with the seed; no way in it is longer than 64. */
    private static long partOf(long set, long seed) {
      long part = seed;
      for (int i = 0; i < PLACES; i++) {
        long wider = withNeighbours(part) & set;
        if (wider == part) {
          break;
        }
        part = wider;
      }
      return part;
    }

    private static long withNeighbours(long set) {
      return set | (set & ~LAST_COLUMN) << 1 | (set & ~FIRST_COLUMN) >>> 1 | set << SIDE
          | set >>> SIDE;
    }

    private static int countOf(long[] sets) {
      int count = 0;
      for (int layer = 0; layer < LAYERS; layer++) {
        count += Long.bitCount(sets[layer]);
      }
      return count;
    }
  }

  /** What the light does: WARM of each place, and the CELLS that went wrong so far. */
  private static final class Melt {
    final double[] warmth = new double[PLACES];
    int lacks;
    int holes;

    void cool() {
      Arrays.fill(warmth, 0.0);
    }

    void shine(long cells, long hanging, double energy) {
      for (int place = 0; place < PLACES; place++) {
        long bit = 1L << place;
        double left = warmth[place] * 0.5;
        if ((cells & bit) == 0L) {
          warmth[place] = left;
        } else {
          warmth[place] = left + energy * 0.25;
          double depth = energy + warmth[place];
          judge((hanging & bit) == 0L ? depth : depth * 1.5);
        }
      }
    }

    private void judge(double depth) {
      if (depth < 2.0) {
        lacks++;
      } else if (depth > 6.0) {
        holes++;
      }
    }
  }

  private static final class Piece {
    final int number;
    final Solid solid = new Solid();
    final Melt melt = new Melt();
    int state = SOLID;
    int done;
    double curl;
    int stops;
    /** Null, if it was not STARTED. */
    Machine machine;
    int power = NONE;
    int speed = NONE;
    int uses = NONE;
    int past = NONE;
    /** ALLOY, POWER and SPEED of its WINDOW as one number; the MACHINE keeps its own proofs. */
    int window = NONE;

    Piece(int number) {
      this.number = number;
    }

    void begin(Machine in, Powder of, int withPower, int withSpeed) {
      state = GROWING;
      machine = in;
      power = withPower;
      speed = withSpeed;
      uses = of.uses;
      past = of.past;
      window = (of.alloy * (MOST_POWER + 1) + withPower) * (MOST_SPEED + 1) + withSpeed;
    }

    void addLayer() {
      long hanging = solid.hanging[done];
      melt.shine(solid.cells[done], hanging, energyOf(power, speed));
      curl = curl * 0.75 + 0.125 * Long.bitCount(hanging);
      done++;
    }

    boolean isStruck() {
      return curl > 2.0;
    }

    double density() {
      int cells = solid.cellCount();
      return cells == 0 ? 0.0 : 1.0 - (double) (melt.lacks + melt.holes) / cells;
    }

    boolean isDense() {
      return density() >= 0.95;
    }
  }

  private static final class Powder {
    final int number;
    int alloy;
    int grams;
    int uses;
    int past;
    int machine = NONE;

    Powder(int number) {
      this.number = number;
      this.past = 1 << number;
    }

    void takeIn(Powder other) {
      grams += other.grams;
      other.grams = 0;
      uses = Math.max(uses, other.uses);
      past |= other.past;
    }
  }

  private static final class Machine {
    final int number;
    int dust = NONE;
    /** Null, if none is in it. */
    Powder powder;
    int load;
    /** Null, if none is growing in it. */
    Piece growing;
    // As many as there are pieces: each of these has one window only.
    final int[] proofs = new int[PIECES];
    int proofCount;

    Machine(int number) {
      this.number = number;
    }

    void putIn(Powder put) {
      powder = put;
      load = put.grams;
      put.grams = 0;
      put.machine = number;
      dust = put.alloy;
    }

    /** Takes the POWDER out, if there is one; of LOAD it gets back so many grams. */
    void giveBack(int grams) {
      if (powder != null) {
        powder.grams += grams;
        powder.uses++;
        powder.machine = NONE;
        powder = null;
        load = 0;
      }
    }

    boolean hasProof(int window) {
      for (int i = 0; i < proofCount; i++) {
        if (proofs[i] == window) {
          return true;
        }
      }
      return false;
    }

    void addProof(int window) {
      if (proofCount < PIECES && !hasProof(window)) {
        proofs[proofCount] = window;
        proofCount++;
      }
    }
  }
}
