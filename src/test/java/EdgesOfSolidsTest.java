import java.util.Arrays;

/** A test for each sentence with a boundary of "1. Solids" and of promises 1 to 4. */
public final class EdgesOfSolidsTest extends Halls {
  public static void main(String[] args) {
    EdgesOfSolidsTest test = new EdgesOfSolidsTest();
    test.piecesAndLayers();
    test.hanging();
    test.islands();
    test.support();
    test.ways();
    test.check.end();
  }

  private void piecesAndLayers() {
    edge("promise 1: creates a hall without PIECES", this::nothingAtFirst);
    edge("1. PIECES: at most 4, numbered from 0; promise 2: throws if there are 4", this::fourPieces);
    edge("promise 2: a PIECE without CELLS", this::pieceWithoutCells);
    edge("1. a SOLID of 8 LAYERS; promise 3: throws if there is no such LAYER", this::eightLayers);
    edge("promise 3: throws if there is no such PIECE", this::layerOfNoPiece);
    edge("promise 3: throws if it is no SOLID any more", this::layerOfNoSolid);
    edge("promise 3: its CELLS from now on", this::cellsFromNowOn);
    edge("promise 3: returns how many these are, from 0 to 64", this::howManyCells);
    edge("1. the sum of 2^(x + 8 y); with x + 8 y of 63 it is below 0", this::eachPlace);
    edge("1. HEIGHT is 0 without any CELL", this::heightOfNone);
    edge("1. HEIGHT is 1 more than the number of the highest LAYER with a CELL", this::heights);
  }

  private void hanging() {
    edge("1. a CELL of a LAYER k above 0 HANGS: none of LAYER 0", this::layerZeroNeverHangs);
    edge("1. HANGS, if neither the CELL just below it .. nor one of the four next to that one",
        this::hangsBesideEachPlace);
    edge("1. .. is in LAYER k - 1: one further down is not enough", this::hangsAboveAnEmptyLayer);
    edge("1. HANGING does not heed SUPPORT", this::supportHoldsUpNothing);
  }

  private void islands() {
    edge("1. an ISLAND of such a LAYER: none of LAYER 0", this::layerZeroHasNoIsland);
    edge("1. a part that hangs together by sides: not by corners", this::cornersDoNotJoin);
    edge("1. a part that hangs together by sides: not round an edge", this::edgesDoNotJoin);
    edge("1. a part that hangs together by sides: each pair of sides", this::sidesJoin);
    edge("1. a part that hangs together by sides: the longest one", this::windingPart);
    edge("1. none of whose CELLS has one just below it: one is enough", this::oneJustBelow);
    edge("1. none of whose CELLS has one just below it: one beside that is not", this::besideBelow);
    edge("1. ISLANDS: the most that there can be", this::mostIslands);
  }

  private void support() {
    edge("1. SUPPORT: to (without it) the first one that is in the SOLID", this::supportToTheSolid);
    edge("1. SUPPORT: or to LAYER 0 with it", this::supportToLayerZero);
    edge("1. SUPPORT: none where none HANGS", this::noSupport);
    edge("1. SUPPORT: each CELL counts once", this::supportOnce);
    edge("1. SUPPORT: the most that there can be", this::mostSupport);
  }

  private void ways() {
    edge("1. six WAYS: where the corners come to", this::corners);
    edge("1. six WAYS: a full SOLID stays full", this::fullInEachWay);
    edge("1. LAYERS are lowered until the LAYER 0 has a CELL, in each WAY", this::lowered);
    edge("1. LAYERS are lowered until .. : not if it has one already", this::notLowered);
    edge("1. LAYERS are lowered (if it has any CELL)", this::emptyInEachWay);
    edge("promise 4: returns its HEIGHT then", this::heightThen);
    edge("promise 4: what HANGS, and SUPPORT, is that of the WAY then", this::hangingThen);
    edge("promise 4: throws if there is no such PIECE", this::layNoPiece);
    edge("promise 4: throws if way is not 0 to 5", this::layNoWay);
    edge("promise 4: throws if it is no SOLID any more", this::layNoSolid);
  }

  // ---- promises 1 to 3

  private void nothingAtFirst() {
    MeltPool hall = new MeltPool();
    check.due("pieces", hall.many(0), 0);
    check.due("powders", hall.many(1), 0);
    check.refused("ofPiece(0, 0)", hall, IOB, () -> hall.ofPiece(0, 0));
    check.refused("ofPowder(0, 0)", hall, IOB, () -> hall.ofPowder(0, 0));
    check.due("digest()", hall.digest(), 1268384811855260712L);
  }

  private void fourPieces() {
    MeltPool hall = new MeltPool();
    for (int i = 0; i < 4; i++) {
      int next = i;
      check.refused("piece " + next + " ahead", hall, IOB, () -> hall.ofPiece(next, 0));
      check.due("piece()", hall.piece(), i);
      check.due("pieces", hall.many(0), i + 1);
    }
    check.refused("a fifth piece", hall, ISE, hall::piece);
    check.refused("and another", hall, ISE, hall::piece);
    check.due("pieces", hall.many(0), 4);
  }

  private void pieceWithoutCells() {
    MeltPool hall = new MeltPool();
    hall.piece();
    int[] want = {0, 0, 0, 0, 0, 0, 0, 0, 0, 0, -1, -1, -1, -1, -1};
    for (int what = 0; what < 15; what++) {
      check.due("ofPiece(0, " + what + ")", hall.ofPiece(0, what), want[what]);
    }
    check.due("its layers", layers(hall, 0, 0), "[0, 0, 0, 0, 0, 0, 0, 0]");
  }

  private void eightLayers() {
    MeltPool hall = new MeltPool();
    hall.piece();
    for (int wrong : new int[] {LEAST, -1, 8, 9, MOST}) {
      check.refused("layer " + wrong, hall, IOB, () -> hall.layer(0, wrong, 1L));
    }
    for (int k = 0; k < 8; k++) {
      check.due("layer " + k, hall.layer(0, k, 1L << k), 1);
    }
    check.due("its layers", layers(hall, 0, 0), "[1, 2, 4, 8, 16, 32, 64, 128]");
  }

  private void layerOfNoPiece() {
    MeltPool hall = new MeltPool();
    check.refused("without pieces", hall, IOB, () -> hall.layer(0, 0, 1L));
    hall.piece();
    for (int wrong : new int[] {LEAST, -1, 1, 4, MOST}) {
      check.refused("piece " + wrong, hall, IOB, () -> hall.layer(wrong, 0, 1L));
    }
  }

  private void layerOfNoSolid() {
    for (int state = GROWING; state <= SCRAP; state++) {
      MeltPool hall = withPieceAs(state);
      check.refused("as it is " + state, hall, ISE, () -> hall.layer(0, 0, 1L));
      check.refused("the same cells", hall, ISE, () -> hall.layer(0, 0, FULL));
    }
    check.due("as it is a solid", withPieceAs(SOLID).layer(0, 0, 1L), 1);
  }

  private void cellsFromNowOn() {
    MeltPool hall = new MeltPool();
    told(hall, 0xF0L, 0xF00L);
    hall.layer(0, 0, 0xFL);
    check.due("the new ones alone", hall.ofLayer(0, 0, 0), 0xFL);
    check.due("the other layer", hall.ofLayer(0, 1, 0), 0xF00L);
    hall.layer(0, 0, 0L);
    check.due("none", hall.ofLayer(0, 0, 0), 0L);
  }

  private void howManyCells() {
    MeltPool hall = new MeltPool();
    hall.piece();
    check.due("none", hall.layer(0, 3, 0L), 0);
    check.due("all", hall.layer(0, 3, FULL), 64);
    check.due("all but the last", hall.layer(0, 3, Long.MAX_VALUE), 63);
    check.due("the last", hall.layer(0, 3, Long.MIN_VALUE), 1);
  }

  private void eachPlace() {
    for (int place = 0; place < 64; place++) {
      MeltPool hall = loaded();
      long set = 1L << place;
      check.due("piece()", told(hall, set, set), 0);
      check.due("cells", hall.ofLayer(0, 1, 0), set);
      check.due("below 0", hall.ofLayer(0, 1, 0) < 0, place == 63);
      hall.start(0, 0, 200, 5);
      hall.grow(0, 1);
      for (int x = 0; x < 8; x++) {
        for (int y = 0; y < 8; y++) {
          check.due("warm at " + x + " " + y, hall.warm(0, x, y), x + 8 * y == place ? 1.0 : 0.0);
        }
      }
    }
  }

  private void heightOfNone() {
    MeltPool hall = new MeltPool();
    told(hall, 0L, 0L);
    check.due("none told", hall.ofPiece(0, 1), 0);
    hall.layer(0, 7, 1L);
    hall.layer(0, 7, 0L);
    check.due("none left", hall.ofPiece(0, 1), 0);
  }

  private void heights() {
    MeltPool hall = new MeltPool();
    hall.piece();
    for (int k = 7; k >= 0; k--) {
      MeltPool alone = new MeltPool();
      alone.piece();
      alone.layer(0, k, Long.MIN_VALUE);
      check.due("of layer " + k + " alone", alone.ofPiece(0, 1), k + 1);
      hall.layer(0, k, 1L);
      check.due("of 7 and lower ones", hall.ofPiece(0, 1), 8);
    }
  }

  // ---- hanging

  private void layerZeroNeverHangs() {
    MeltPool hall = new MeltPool();
    told(hall, FULL);
    check.due("cells that hang", hall.ofPiece(0, 3), 0);
    check.due("which", hall.ofLayer(0, 0, 1), 0L);
    hall.layer(0, 0, 1L);
    check.due("of one cell", hall.ofPiece(0, 3), 0);
  }

  private void hangsBesideEachPlace() {
    for (int place = 0; place < 64; place++) {
      int x = place % 8;
      int y = place / 8;
      MeltPool hall = new MeltPool();
      told(hall, 1L << place, FULL);
      long want = 0L;
      for (int other = 0; other < 64; other++) {
        int away = Math.abs(other % 8 - x) + Math.abs(other / 8 - y);
        want |= away > 1 ? 1L << other : 0L;
      }
      check.due("above " + x + " " + y, hall.ofLayer(0, 1, 1), want);
      check.due("how many", hall.ofPiece(0, 3), Long.bitCount(want));
    }
  }

  private void hangsAboveAnEmptyLayer() {
    MeltPool hall = new MeltPool();
    told(hall, FULL, 0L, FULL);
    check.due("those that hang", hall.ofLayer(0, 2, 1), FULL);
    check.due("how many", hall.ofPiece(0, 3), 64);
    hall.layer(0, 1, checkered(0));
    check.due("each is beside one", hall.ofPiece(0, 3), 0);
  }

  private void supportHoldsUpNothing() {
    MeltPool hall = new MeltPool();
    told(hall, 0L, 0L, at(4, 4), at(3, 3));
    check.due("support just below and beside", hall.ofLayer(0, 1, 2), at(4, 4, 3, 3));
    hall.layer(0, 2, at(3, 4));
    hall.layer(0, 3, 0L);
    hall.layer(0, 5, at(3, 3));
    check.due("one above support hangs", hall.ofLayer(0, 5, 1), at(3, 3));
    check.due("and the one beside that", hall.ofLayer(0, 2, 1), at(3, 4));
  }

  // ---- islands

  private static int islandsOf(long below, long layer) {
    MeltPool hall = new MeltPool();
    told(hall, below, layer);
    return hall.ofPiece(0, 4);
  }

  private void layerZeroHasNoIsland() {
    check.due("layer 0 alone", islandsOf(checkered(0), 0L), 0);
    check.due("layer 1 above none", islandsOf(0L, 1L), 1);
  }

  private void cornersDoNotJoin() {
    check.due("a falling corner", islandsOf(0L, at(2, 2, 3, 3)), 2);
    check.due("a rising corner", islandsOf(0L, at(3, 2, 2, 3)), 2);
    check.due("one of them has one below", islandsOf(at(2, 2), at(2, 2, 3, 3)), 1);
  }

  private void edgesDoNotJoin() {
    for (int y = 0; y < 7; y++) {
      check.due("rows " + y + " and next", islandsOf(0L, at(7, y, 0, y + 1)), 2);
      check.due("the same row", islandsOf(0L, at(7, y, 0, y)), 2);
    }
    check.due("the first and the last", islandsOf(0L, at(0, 0, 7, 7)), 2);
    check.due("first and last row", islandsOf(0L, at(3, 0, 3, 7)), 2);
  }

  private void sidesJoin() {
    for (int place = 0; place < 64; place++) {
      int x = place % 8;
      int y = place / 8;
      if (x < 7) {
        check.due("in x from " + x + " " + y, islandsOf(0L, at(x, y, x + 1, y)), 1);
      }
      if (y < 7) {
        check.due("in y from " + x + " " + y, islandsOf(0L, at(x, y, x, y + 1)), 1);
      }
    }
  }

  private void windingPart() {
    // Rows 0, 2, 4, 6 whole, joined at their ends in turn, and a tail up to row 7.
    long winding = 0x80FF01FF80FF01FFL;
    check.due("above none", islandsOf(0L, winding), 1);
    check.due("above its first end", islandsOf(at(7, 0), winding), 0);
    check.due("above its last end", islandsOf(at(7, 7), winding), 0);
    check.due("above all that is not of it", islandsOf(~winding, winding), 1);
    check.due("cut in two", islandsOf(0L, winding & ~at(4, 4)), 2);
    check.due("cut in two, one rests", islandsOf(at(7, 0), winding & ~at(4, 4)), 1);
  }

  private void oneJustBelow() {
    check.due("one of 64", islandsOf(at(7, 7), FULL), 0);
    check.due("one of 1", islandsOf(at(7, 7), at(7, 7)), 0);
    check.due("one of 3", islandsOf(at(2, 0), at(0, 0, 1, 0, 2, 0)), 0);
    check.due("the other part has none", islandsOf(at(2, 0), at(0, 0, 2, 0)), 1);
  }

  private void besideBelow() {
    MeltPool hall = new MeltPool();
    told(hall, at(3, 3), at(4, 3, 4, 4, 2, 3));
    check.due("islands", hall.ofPiece(0, 4), 2);
    check.due("though one cell hangs alone", hall.ofPiece(0, 3), 1);
  }

  private void mostIslands() {
    MeltPool hall = new MeltPool();
    told(hall, checkered(0), checkered(1), checkered(0), checkered(1), checkered(0), checkered(1),
        checkered(0), checkered(1));
    check.due("32 in each of 7 layers", hall.ofPiece(0, 4), 224);
    check.due("none of them hangs", hall.ofPiece(0, 3), 0);
  }

  // ---- support

  private void supportToTheSolid() {
    MeltPool hall = new MeltPool();
    long one = at(5, 6);
    told(hall, 0L, one, 0L, 0L, one);
    check.due("support of layers", layers(hall, 0, 2),
        Arrays.toString(new long[] {one, 0L, one, one, 0L, 0L, 0L, 0L}));
    hall.layer(0, 0, one);
    check.due("of layer 0 too", layers(hall, 0, 2),
        Arrays.toString(new long[] {0L, 0L, one, one, 0L, 0L, 0L, 0L}));
    check.due("how many", hall.ofPiece(0, 5), 2);
  }

  private void supportToLayerZero() {
    MeltPool hall = new MeltPool();
    told(hall, 0L, Long.MIN_VALUE);
    check.due("from layer 1", hall.ofLayer(0, 0, 2), Long.MIN_VALUE);
    check.due("how many", hall.ofPiece(0, 5), 1);
    hall.layer(0, 1, 0L);
    hall.layer(0, 7, Long.MIN_VALUE);
    long all = Long.MIN_VALUE;
    check.due("from layer 7", layers(hall, 0, 2),
        Arrays.toString(new long[] {all, all, all, all, all, all, all, 0L}));
    check.due("how many", hall.ofPiece(0, 5), 7);
  }

  private void noSupport() {
    MeltPool hall = new MeltPool();
    told(hall, at(3, 3), at(2, 3, 4, 3, 3, 2, 3, 4));
    check.due("beside one below", hall.ofPiece(0, 5), 0);
    hall.layer(0, 1, 0L);
    check.due("layer 0 alone", hall.ofPiece(0, 5), 0);
    hall.layer(0, 0, 0L);
    check.due("no cells", hall.ofPiece(0, 5), 0);
  }

  private void supportOnce() {
    MeltPool hall = new MeltPool();
    told(hall, 0L, 0L, at(1, 1), 0L, at(1, 1), 0L, at(1, 1));
    check.due("three above one another", hall.ofPiece(0, 5), 4);
    check.due("they hang", hall.ofPiece(0, 3), 3);
  }

  private void mostSupport() {
    MeltPool hall = new MeltPool();
    told(hall, 0L, 0L, 0L, 0L, 0L, 0L, 0L, FULL);
    check.due("7 full layers", hall.ofPiece(0, 5), 448);
    check.due("they hang", hall.ofPiece(0, 3), 64);
    check.due("one island", hall.ofPiece(0, 4), 1);
  }

  // ---- ways

  private void corners() {
    // Where (0, 0, 0) and (6, 3, 7) come to, before both are lowered.
    int[][] want = {
      {0, 0, 0, 6, 3, 7}, {0, 0, 7, 6, 3, 0}, {0, 0, 0, 7, 3, 6},
      {0, 0, 7, 7, 3, 1}, {0, 0, 0, 6, 7, 3}, {0, 0, 7, 6, 7, 4}
    };
    for (int way = 0; way < 6; way++) {
      MeltPool hall = new MeltPool();
      hall.piece();
      hall.layer(0, 0, at(0, 0));
      hall.layer(0, 7, at(6, 3));
      int[] w = want[way];
      int low = Math.min(w[2], w[5]);
      long[] layers = new long[8];
      layers[w[2] - low] |= at(w[0], w[1]);
      layers[w[5] - low] |= at(w[3], w[4]);
      hall.lay(0, way);
      check.due("way " + way, layers(hall, 0, 0), Arrays.toString(layers));
    }
  }

  private void fullInEachWay() {
    MeltPool hall = new MeltPool();
    told(hall, FULL, FULL, FULL, FULL, FULL, FULL, FULL, FULL);
    for (int way = 0; way < 6; way++) {
      check.due("lay(0, " + way + ")", hall.lay(0, way), 8);
      check.due("cells", hall.ofPiece(0, 2), 512);
      check.due("support", hall.wouldHold(0, way), 0);
    }
  }

  private void lowered() {
    int[][] want = {{5, 6}, {5, 6}, {3, 6}, {3, 6}, {5, 3}, {5, 3}};
    for (int way = 0; way < 6; way++) {
      MeltPool hall = new MeltPool();
      told(hall, 0L, 0L, 0L, at(5, 6));
      check.due("lay(0, " + way + ")", hall.lay(0, way), 1);
      check.due("way " + way, hall.ofLayer(0, 0, 0), at(want[way]));
      check.due("one cell", hall.ofPiece(0, 2), 1);
    }
    MeltPool hall = new MeltPool();
    told(hall, 0L, 0L, 1L, 0L, 2L);
    check.due("the gap stays", hall.lay(0, 0), 3);
    check.due("its layers", layers(hall, 0, 0), "[1, 0, 2, 0, 0, 0, 0, 0]");
  }

  private void notLowered() {
    MeltPool hall = new MeltPool();
    told(hall, 1L, 0L, 0L, 4L);
    check.due("lay(0, 0)", hall.lay(0, 0), 4);
    check.due("its layers", layers(hall, 0, 0), "[1, 0, 0, 4, 0, 0, 0, 0]");
    hall.layer(0, 0, 0L);
    check.due("no call but lay lowers", hall.ofPiece(0, 1), 4);
  }

  private void emptyInEachWay() {
    MeltPool hall = new MeltPool();
    hall.piece();
    for (int way = 0; way < 6; way++) {
      check.due("lay(0, " + way + ")", hall.lay(0, way), 0);
      check.due("cells", hall.ofPiece(0, 2), 0);
    }
  }

  private void heightThen() {
    int[] want = {1, 1, 8, 8, 3, 3};
    for (int way = 0; way < 6; way++) {
      MeltPool hall = new MeltPool();
      told(hall, 0L, 0xFFFFFFL);
      check.due("lay(0, " + way + ")", hall.lay(0, way), want[way]);
      check.due("height", hall.ofPiece(0, 1), want[way]);
    }
  }

  private void hangingThen() {
    // Way 3 stands the row of LAYER 1 upright, and (0, 0, 0) at its side comes to LAYER 7.
    int[] hang = {8, 1, 0, 1, 8, 1};
    int[] support = {8, 1, 0, 7, 16, 2};
    for (int way = 0; way < 6; way++) {
      MeltPool hall = new MeltPool();
      told(hall, 1L, 0xFF0000L);
      hall.lay(0, way);
      check.due("hang, way " + way, hall.ofPiece(0, 3), hang[way]);
      check.due("support, way " + way, hall.ofPiece(0, 5), support[way]);
    }
  }

  private void layNoPiece() {
    MeltPool hall = new MeltPool();
    check.refused("without pieces", hall, IOB, () -> hall.lay(0, 0));
    told(hall, 0L, 1L);
    for (int wrong : new int[] {LEAST, -1, 1, 4, MOST}) {
      check.refused("piece " + wrong, hall, IOB, () -> hall.lay(wrong, 1));
    }
  }

  private void layNoWay() {
    MeltPool hall = new MeltPool();
    told(hall, 0L, 1L);
    for (int wrong : new int[] {LEAST, -1, 6, 7, MOST}) {
      check.refused("way " + wrong, hall, IAE, () -> hall.lay(0, wrong));
    }
  }

  private void layNoSolid() {
    for (int state = GROWING; state <= SCRAP; state++) {
      MeltPool hall = withPieceAs(state);
      for (int way = 0; way < 6; way++) {
        int tried = way;
        check.refused("as it is " + state, hall, ISE, () -> hall.lay(0, tried));
      }
    }
    check.due("as it is a solid", withPieceAs(SOLID).lay(0, 2), 8);
  }

  private static String layers(MeltPool hall, int piece, int what) {
    long[] sets = new long[8];
    for (int k = 0; k < 8; k++) {
      sets[k] = hall.ofLayer(piece, k, what);
    }
    return Arrays.toString(sets);
  }
}
