import java.util.ArrayList;
import java.util.HashSet;
import java.util.List;
import java.util.Set;
import java.util.TreeSet;

/**
 * The document told once more, cell by cell and with sets of texts: a second opinion, with which
 * RandomRunsTest compares every answer of the class.
 */
final class NaiveHall {
  private static final class Part {
    boolean[][][] cell = new boolean[8][8][8];
    int state;
    int done;
    int lacks;
    int holes;
    int stops;
    int machine = -1;
    int alloy = -1;
    int power = -1;
    int speed = -1;
    int uses = -1;
    Set<Integer> past;
    double curl;
    double[][] warm = new double[8][8];

    String window() {
      return machine + " " + alloy + " " + power + " " + speed;
    }
  }

  private static final class Sort {
    int alloy;
    int grams;
    int uses;
    int machine = -1;
    Set<Integer> past = new TreeSet<>();
  }

  private static final class Rig {
    int dust = -1;
    int powder = -1;
    int load;
    int growing = -1;
    Set<String> proofs = new HashSet<>();
  }

  private final List<Part> parts = new ArrayList<>();
  private final List<Sort> sorts = new ArrayList<>();
  private final Rig[] rigs = {new Rig(), new Rig()};
  private int strikes;
  private int layersDone;

  private static void index(boolean good) {
    if (!good) {
      throw new IndexOutOfBoundsException();
    }
  }

  private static void argument(boolean good) {
    if (!good) {
      throw new IllegalArgumentException();
    }
  }

  private static void state(boolean good) {
    if (!good) {
      throw new IllegalStateException();
    }
  }

  private static boolean within(int value, int least, int most) {
    return least <= value && value <= most;
  }

  private Part part(int n) {
    index(within(n, 0, parts.size() - 1));
    return parts.get(n);
  }

  private Sort sort(int n) {
    index(within(n, 0, sorts.size() - 1));
    return sorts.get(n);
  }

  private Rig rig(int n) {
    index(within(n, 0, 1));
    return rigs[n];
  }

  int piece() {
    state(parts.size() < 4);
    parts.add(new Part());
    return parts.size() - 1;
  }

  int layer(int piece, int layer, long cells) {
    Part p = part(piece);
    index(within(layer, 0, 7));
    state(p.state == 0);
    int count = 0;
    for (int x = 0; x < 8; x++) {
      for (int y = 0; y < 8; y++) {
        p.cell[x][y][layer] = (cells >> (x + 8 * y)) % 2 != 0;
        count += p.cell[x][y][layer] ? 1 : 0;
      }
    }
    return count;
  }

  int lay(int piece, int way) {
    Part p = part(piece);
    argument(within(way, 0, 5));
    state(p.state == 0);
    p.cell = laid(p.cell, way);
    return height(p.cell);
  }

  int powder(int alloy, int grams) {
    argument(within(alloy, 0, 2) && within(grams, 1, 2000));
    state(sorts.size() < 6);
    Sort s = new Sort();
    s.alloy = alloy;
    s.grams = grams;
    s.past.add(sorts.size());
    sorts.add(s);
    return sorts.size() - 1;
  }

  int blend(int first, int second) {
    Sort a = sort(first);
    Sort b = sort(second);
    argument(a != b && a.alloy == b.alloy);
    state(a.machine == -1 && b.machine == -1);
    a.grams += b.grams;
    b.grams = 0;
    a.uses = b.uses > a.uses ? b.uses : a.uses;
    a.past.addAll(b.past);
    return a.grams;
  }

  int load(int machine, int powder) {
    Rig r = rig(machine);
    Sort s = sort(powder);
    state(r.powder == -1 && s.machine == -1 && s.grams > 0);
    if (r.dust != -1 && r.dust != s.alloy) {
      return -2;
    }
    if (s.uses >= 5) {
      return -3;
    }
    r.powder = powder;
    r.load = s.grams;
    r.dust = s.alloy;
    s.grams = 0;
    s.machine = machine;
    return r.load;
  }

  int unload(int machine) {
    Rig r = rig(machine);
    state(r.powder != -1 && r.growing == -1);
    Sort s = sorts.get(r.powder);
    s.grams += r.load;
    s.uses++;
    s.machine = -1;
    r.powder = -1;
    r.load = 0;
    return s.grams;
  }

  int clean(int machine) {
    Rig r = rig(machine);
    if (r.growing != -1) {
      parts.get(r.growing).state = 6;
    }
    if (r.powder != -1) {
      Sort s = sorts.get(r.powder);
      s.grams += (int) Math.floor(r.load * 9 / 10.0);
      s.uses++;
      s.machine = -1;
    }
    int lost = r.proofs.size();
    rigs[machine] = new Rig();
    return lost;
  }

  int start(int machine, int piece, int power, int speed) {
    Rig r = rig(machine);
    Part p = part(piece);
    argument(within(power, 50, 400) && within(speed, 1, 20));
    state(p.state == 0 && height(p.cell) > 0 && r.growing == -1 && r.powder != -1);
    Sort s = sorts.get(r.powder);
    p.state = 1;
    p.machine = machine;
    p.alloy = s.alloy;
    p.power = power;
    p.speed = speed;
    p.uses = s.uses;
    p.past = new TreeSet<>(s.past);
    r.growing = piece;
    return height(p.cell);
  }

  int grow(int machine, int layers) {
    Rig r = rig(machine);
    argument(within(layers, 1, 8));
    state(r.growing != -1);
    Part p = parts.get(r.growing);
    int done = 0;
    while (done < layers && p.state == 1) {
      int k = p.done;
      int needed = count(p.cell, k) + supportOf(p.cell, k);
      if (r.load < needed) {
        break;
      }
      r.load -= needed;
      melt(p, k);
      p.done++;
      layersDone++;
      done++;
      if (p.curl > 2.0) {
        p.state = 6;
        strikes++;
      } else if (p.done == height(p.cell)) {
        p.state = 2;
      }
    }
    if (p.state != 1) {
      r.growing = -1;
    }
    return done;
  }

  private static void melt(Part p, int k) {
    double energy = (double) p.power / p.speed / 10.0;
    int hang = 0;
    for (int y = 0; y < 8; y++) {
      for (int x = 0; x < 8; x++) {
        p.warm[x][y] = p.warm[x][y] * 0.5;
        if (p.cell[x][y][k]) {
          p.warm[x][y] = p.warm[x][y] + energy * 0.25;
          double depth = energy + p.warm[x][y];
          if (hangs(p.cell, x, y, k)) {
            depth = depth * 1.5;
            hang++;
          }
          p.lacks += depth < 2.0 ? 1 : 0;
          p.holes += depth > 6.0 ? 1 : 0;
        }
      }
    }
    p.curl = p.curl * 0.75 + 0.125 * hang;
  }

  int stop(int machine) {
    Rig r = rig(machine);
    state(r.growing != -1);
    Part p = parts.get(r.growing);
    p.warm = new double[8][8];
    return ++p.stops;
  }

  int relieve(int piece) {
    Part p = part(piece);
    state(p.state == 2);
    p.state = 3;
    return p.lacks;
  }

  boolean saw(int piece) {
    Part p = part(piece);
    state(p.state == 2 || p.state == 3);
    p.state = p.state == 2 ? 6 : 4;
    return p.state == 4;
  }

  int press(int piece) {
    Part p = part(piece);
    state(p.state == 3 || p.state == 4);
    p.lacks /= 4;
    return p.lacks;
  }

  boolean prove(int piece) {
    Part p = part(piece);
    state(p.state == 4);
    boolean good = measure(piece, 0) >= 0.95;
    if (good) {
      rigs[p.machine].proofs.add(p.window());
    }
    return good;
  }

  int accept(int piece) {
    Part p = part(piece);
    state(p.state == 4);
    if (!rigs[p.machine].proofs.contains(p.window())) {
      return 1;
    }
    if (measure(piece, 0) < 0.95) {
      return 2;
    }
    if (p.stops > 1) {
      return 3;
    }
    p.state = 5;
    return 0;
  }

  int ofPiece(int piece, int what) {
    Part p = part(piece);
    argument(within(what, 0, 14));
    int[] all = {
      p.state, height(p.cell), 0, 0, islands(p.cell), 0, p.done, p.lacks, p.holes, p.stops,
      p.machine, p.power, p.speed, p.uses, p.past == null ? -1 : sum(p.past)
    };
    for (int k = 0; k < 8; k++) {
      all[2] += count(p.cell, k);
      all[3] += Long.bitCount(ofLayer(piece, k, 1));
      all[5] += supportOf(p.cell, k);
    }
    return all[what];
  }

  long ofLayer(int piece, int layer, int what) {
    Part p = part(piece);
    index(within(layer, 0, 7));
    argument(within(what, 0, 2));
    Set<String> support = support(p.cell);
    long set = 0;
    for (int x = 0; x < 8; x++) {
      for (int y = 0; y < 8; y++) {
        boolean in = what == 0 ? p.cell[x][y][layer]
            : what == 1 ? hangs(p.cell, x, y, layer)
            : support.contains(x + " " + y + " " + layer);
        set |= in ? 1L << (x + 8 * y) : 0L;
      }
    }
    return set;
  }

  int ofPowder(int powder, int what) {
    Sort s = sort(powder);
    argument(within(what, 0, 4));
    return new int[] {s.alloy, s.grams, s.uses, sum(s.past), s.machine}[what];
  }

  int ofMachine(int machine, int what) {
    Rig r = rig(machine);
    argument(within(what, 0, 4));
    return new int[] {r.dust, r.powder, r.load, r.growing, r.proofs.size()}[what];
  }

  double warm(int machine, int x, int y) {
    Rig r = rig(machine);
    index(within(x, 0, 7) && within(y, 0, 7));
    return r.growing == -1 ? 0.0 : parts.get(r.growing).warm[x][y];
  }

  double measure(int piece, int what) {
    Part p = part(piece);
    argument(within(what, 0, 1));
    int cells = ofPiece(piece, 2);
    double density = cells == 0 ? 0.0 : 1.0 - (double) (p.lacks + p.holes) / cells;
    return what == 0 ? density : p.curl;
  }

  int recall(int powder) {
    sort(powder);
    int set = 0;
    for (int i = 0; i < parts.size(); i++) {
      Set<Integer> past = parts.get(i).past;
      set += past != null && past.contains(powder) ? 1 << i : 0;
    }
    return set;
  }

  int many(int what) {
    argument(within(what, 0, 7));
    int accepted = 0;
    int scrap = 0;
    for (Part p : parts) {
      accepted += p.state == 5 ? 1 : 0;
      scrap += p.state == 6 ? 1 : 0;
    }
    int grams = rigs[0].load + rigs[1].load;
    for (Sort s : sorts) {
      grams += s.grams;
    }
    int proofs = rigs[0].proofs.size() + rigs[1].proofs.size();
    int[] all = {
      parts.size(), sorts.size(), proofs, accepted, scrap, grams, strikes, layersDone
    };
    return all[what];
  }

  int wouldHold(int piece, int way) {
    Part p = part(piece);
    argument(within(way, 0, 5));
    return support(laid(p.cell, way)).size();
  }

  int bestWay(int piece) {
    Part p = part(piece);
    int best = 0;
    for (int way = 1; way < 6; way++) {
      int held = support(laid(p.cell, way)).size() - support(laid(p.cell, best)).size();
      int high = height(laid(p.cell, way)) - height(laid(p.cell, best));
      if (held < 0 || held == 0 && high < 0) {
        best = way;
      }
    }
    return best;
  }

  int bestSpeed(int piece, int power) {
    Part p = part(piece);
    argument(within(power, 50, 400));
    int best = 0;
    int fewest = Integer.MAX_VALUE;
    for (int speed = 20; speed >= 1; speed--) {
      Part tried = new Part();
      tried.cell = p.cell;
      tried.power = power;
      tried.speed = speed;
      for (int k = 0; k < height(p.cell); k++) {
        melt(tried, k);
      }
      if (tried.lacks + tried.holes < fewest) {
        fewest = tried.lacks + tried.holes;
        best = speed;
      }
    }
    return best;
  }

  long digest() {
    List<Long> all = new ArrayList<>();
    for (int what = 0; what <= 7; what++) {
      all.add((long) many(what));
    }
    for (int i = 0; i < parts.size(); i++) {
      for (int what = 0; what <= 14; what++) {
        all.add((long) ofPiece(i, what));
      }
      all.add((long) (parts.get(i).curl * 8));
      all.add((long) bestWay(i));
      all.add((long) bestSpeed(i, 200));
      for (int n = 0; n < 24; n++) {
        all.add(ofLayer(i, n / 3, n % 3));
      }
    }
    for (int i = 0; i < sorts.size(); i++) {
      for (int what = 0; what <= 4; what++) {
        all.add((long) ofPowder(i, what));
      }
      all.add((long) recall(i));
    }
    for (int n = 0; n < 10; n++) {
      all.add((long) ofMachine(n / 5, n % 5));
    }
    long d = 9608;
    for (long v : all) {
      d = d * 31 + v;
    }
    return d;
  }

  private static int sum(Set<Integer> set) {
    int sum = 0;
    for (int k : set) {
      sum += 1 << k;
    }
    return sum;
  }

  private static boolean in(boolean[][][] cell, int x, int y, int z) {
    return within(x, 0, 7) && within(y, 0, 7) && within(z, 0, 7) && cell[x][y][z];
  }

  private static boolean hangs(boolean[][][] cell, int x, int y, int k) {
    return k > 0 && cell[x][y][k] && !in(cell, x, y, k - 1) && !in(cell, x - 1, y, k - 1)
        && !in(cell, x + 1, y, k - 1) && !in(cell, x, y - 1, k - 1) && !in(cell, x, y + 1, k - 1);
  }

  private static int count(boolean[][][] cell, int k) {
    int count = 0;
    for (int n = 0; n < 64; n++) {
      count += cell[n % 8][n / 8][k] ? 1 : 0;
    }
    return count;
  }

  private static int height(boolean[][][] cell) {
    int height = 0;
    for (int k = 0; k < 8; k++) {
      height = count(cell, k) > 0 ? k + 1 : height;
    }
    return height;
  }

  private static Set<String> support(boolean[][][] cell) {
    Set<String> set = new HashSet<>();
    for (int n = 0; n < 512; n++) {
      int x = n % 8;
      int y = n / 8 % 8;
      int k = n / 64;
      if (hangs(cell, x, y, k)) {
        for (int z = k - 1; z >= 0 && !cell[x][y][z]; z--) {
          set.add(x + " " + y + " " + z);
        }
      }
    }
    return set;
  }

  private static int supportOf(boolean[][][] cell, int k) {
    int count = 0;
    for (String place : support(cell)) {
      count += place.endsWith(" " + k) ? 1 : 0;
    }
    return count;
  }

  private static int islands(boolean[][][] cell) {
    int count = 0;
    for (int k = 1; k < 8; k++) {
      boolean[][] seen = new boolean[8][8];
      for (int n = 0; n < 64; n++) {
        int x = n % 8;
        int y = n / 8;
        if (cell[x][y][k] && !seen[x][y] && !rests(cell, seen, x, y, k)) {
          count++;
        }
      }
    }
    return count;
  }

  /** Whether the part of the layer with this cell has a cell just below one of its own. */
  private static boolean rests(boolean[][][] cell, boolean[][] seen, int x, int y, int k) {
    if (!in(cell, x, y, k) || seen[x][y]) {
      return false;
    }
    seen[x][y] = true;
    return cell[x][y][k - 1]
        | rests(cell, seen, x - 1, y, k) | rests(cell, seen, x + 1, y, k)
        | rests(cell, seen, x, y - 1, k) | rests(cell, seen, x, y + 1, k);
  }

  private static boolean[][][] laid(boolean[][][] cell, int way) {
    boolean[][][] to = new boolean[8][8][8];
    for (int n = 0; n < 512; n++) {
      int x = n % 8;
      int y = n / 8 % 8;
      int z = n / 64;
      int[][] ways = {
        {x, y, z}, {x, y, 7 - z}, {z, y, x}, {z, y, 7 - x}, {x, z, y}, {x, z, 7 - y}
      };
      int[] at = ways[way];
      to[at[0]][at[1]][at[2]] = cell[x][y][z];
    }
    while (height(to) > 0 && count(to, 0) == 0) {
      for (int n = 0; n < 512; n++) {
        int x = n % 8;
        int y = n / 8 % 8;
        int z = n / 64;
        to[x][y][z] = in(to, x, y, z + 1);
      }
    }
    return to;
  }
}
