import java.math.BigInteger;

/** A test for each sentence with a boundary of promises 18 to 29. */
public final class EdgesOfAsksTest extends Halls {
  private static final int[] NO_PIECES = {LEAST, -1, 1, 4, MOST};
  /** Its least DEPTH is 1.40625 times ENERGY: 2.0 by 200 / 14, but not by 199 / 14. */
  private static final long[] TELLING = {0L, 1L, 0L, 1L, 1L};
  /** Its least DEPTH is 1.39453125 times ENERGY: 2.0 by 201 / 14, but not by 200 / 14. */
  private static final long[] TELLING_TOO = {0L, 1L, 0L, 1L, 0L, 0L, 1L, 1L};

  public static void main(String[] args) {
    EdgesOfAsksTest test = new EdgesOfAsksTest();
    test.pieces();
    test.powdersAndMachines();
    test.measures();
    test.counts();
    test.ways();
    test.speeds();
    test.digests();
    test.check.end();
  }

  private void pieces() {
    edge("promise 18: throws if there is no such PIECE", this::ofNoPiece);
    edge("promise 18: throws if what is not 0 to 14", this::ofPieceNoWhat);
    edge("promise 18: (10 to 14: NONE, if it was not STARTED)", this::ofPieceNotStarted);
    edge("promise 18: .. of one that was STARTED, also as it is SCRAP", this::ofPieceStarted);
    edge("promise 18: a full PIECE", this::ofFullPiece);
    edge("promise 19: throws if there is no such PIECE", this::ofLayerNoPiece);
    edge("promise 19: throws if there is no such .. LAYER", this::ofLayerNoLayer);
    edge("promise 19: throws if what is not 0 to 2", this::ofLayerNoWhat);
    edge("promise 19: the ends: LAYERS 0 and 7", this::ofLayerEnds);
  }

  private void powdersAndMachines() {
    edge("promise 20: throws if there is no such POWDER", this::ofNoPowder);
    edge("promise 20: throws if what is not 0 to 4", this::ofPowderNoWhat);
    edge("promise 20: GRAMS (without LOAD)", this::ofPowderWithoutLoad);
    edge("promise 20: the MACHINE in which it is (NONE)", this::ofPowderMachine);
    edge("promise 21: throws if machine is not 0 or 1", this::ofNoMachine);
    edge("promise 21: throws if what is not 0 to 4", this::ofMachineNoWhat);
    edge("promise 21: its POWDER (NONE), LOAD (0 without one), the PIECE (NONE)", this::ofMachineNone);
  }

  private void measures() {
    edge("promise 22: 0.0 without one that is GROWING in it", this::warmWithoutOne);
    edge("promise 22: throws if machine is not 0 or 1", this::warmNoMachine);
    edge("promise 22: throws if x or y not 0 to 7", this::warmNoPlace);
    edge("promise 22: the ends of x and y", this::warmEnds);
    edge("promise 23: DENSITY (0.0 without CELLS)", this::densityWithoutCells);
    edge("promise 23: CURL (0.0 of one that was not STARTED)", this::curlNotStarted);
    edge("promise 23: throws if there is no such PIECE", this::measureNoPiece);
    edge("promise 23: throws if what is not 0 or 1", this::measureNoWhat);
  }

  private void counts() {
    edge("promise 24: throws if there is no such POWDER", this::recallNoPowder);
    edge("promise 24: the set of none, and of all PIECES", this::recallNoneAndAll);
    edge("promise 24: the PAST that was kept for them", this::recallKeptPast);
    edge("promise 25: throws if what is not 0 to 7", this::manyNoWhat);
    edge("promise 25: each is 0 at first", this::manyAtFirst);
    edge("promise 25: each as a hall is full", this::manyOfFullHall);
    edge("promise 25: STRIKES ever, LAYERS ever: a clean takes none", this::manyEver);
  }

  private void ways() {
    edge("promise 26: throws if there is no such PIECE", this::wouldHoldNoPiece);
    edge("promise 26: throws if way is not 0 to 5", this::wouldHoldNoWay);
    edge("promise 26: a PIECE without CELLS", this::wouldHoldNothing);
    edge("promise 26: laid so: lowered, too", this::wouldHoldLowered);
    edge("promise 26: nothing is changed", this::wouldHoldChangesNothing);
    edge("promise 26: also of one that is no SOLID any more", this::wouldHoldInEachState);
    edge("promise 27: throws if there is no such PIECE", this::bestWayNoPiece);
    edge("promise 27: a PIECE without CELLS", this::bestWayOfNothing);
    edge("promise 27: the fewest CELLS of SUPPORT, whatever the HEIGHT", this::fewestSupport);
    edge("promise 27: of several that of the least HEIGHT", this::leastHeight);
    edge("promise 27: then the smallest one", this::smallestWay);
    edge("promise 27: nothing is changed", this::bestWayChangesNothing);
  }

  private void speeds() {
    edge("promise 28: throws if there is no such PIECE", this::bestSpeedNoPiece);
    edge("promise 28: throws if power is not 50 to 400", this::bestSpeedNoPower);
    edge("promise 28: a PIECE without CELLS", this::bestSpeedOfNothing);
    edge("promise 28: of several the greatest", this::greatestSpeed);
    edge("promise 28: as it lies", this::bestSpeedAsItLies);
    edge("promise 28: without STOPS", this::bestSpeedWithoutStops);
    edge("promise 28: grams aside", this::bestSpeedWithoutGrams);
    edge("promise 28: CURL aside", this::bestSpeedWithoutCurl);
    edge("promise 28: its SOLID, whatever was grown and pressed of it", this::bestSpeedInEachState);
    edge("promise 28: a full SOLID, and one whose HEIGHT is 8", this::bestSpeedOfFullOne);
    edge("promise 28: nothing is changed", this::bestSpeedChangesNothing);
  }

  private void digests() {
    edge("promise 29: starts with 9608, in a hall without PIECES", this::digestOfNothing);
    edge("promise 29: wraps around as a 64-bit integer, in a full hall", this::digestWrapsAround);
    edge("promise 29: bestSpeed() of 200", this::digestOfTelling);
    edge("promise 29: CURL times 8, cut to a whole number", this::digestOfCurl);
    edge("promise 29: nothing is changed", this::digestChangesNothing);
  }

  // ---- promises 18 and 19

  private void ofNoPiece() {
    MeltPool hall = withPieceAs(SAWN);
    for (int wrong : NO_PIECES) {
      for (int what = 0; what < 15; what++) {
        int asked = what;
        check.refused("piece " + wrong, hall, IOB, () -> hall.ofPiece(wrong, asked));
      }
    }
  }

  private void ofPieceNoWhat() {
    MeltPool hall = withPieceAs(SAWN);
    for (int wrong : new int[] {LEAST, -1, 15, 16, MOST}) {
      check.refused("what " + wrong, hall, IAE, () -> hall.ofPiece(0, wrong));
    }
    check.due("what 0", hall.ofPiece(0, 0), SAWN);
    check.due("what 14", hall.ofPiece(0, 14), 1);
  }

  private void ofPieceNotStarted() {
    MeltPool hall = withPieceAs(SOLID);
    hall.lay(0, 3);
    for (int what = 10; what < 15; what++) {
      check.due("ofPiece(0, " + what + ")", hall.ofPiece(0, what), -1);
    }
    for (int what = 6; what < 10; what++) {
      check.due("ofPiece(0, " + what + ")", hall.ofPiece(0, what), 0);
    }
  }

  private void ofPieceStarted() {
    int[] want = {0, 200, 5, 0, 1};
    for (int state = GROWING; state <= SCRAP; state++) {
      MeltPool hall = withPieceAs(state);
      if (state != GROWING) {
        hall.unload(0);
      }
      for (int what = 10; what < 15; what++) {
        check.due("as it is " + state + ", " + what, hall.ofPiece(0, what), want[what - 10]);
      }
    }
    MeltPool other = new MeltPool();
    other.powder(0, 10);
    other.powder(0, 10);
    other.load(1, 1);
    other.start(1, told(other, 1L), 50, 20);
    other.clean(1);
    int[] scrap = {1, 50, 20, 0, 2};
    for (int what = 10; what < 15; what++) {
      check.due("in machine 1, " + what, other.ofPiece(0, what), scrap[what - 10]);
    }
  }

  private void ofFullPiece() {
    MeltPool hall = loaded();
    grown(hall, 400, 1, FULL, FULL, FULL, FULL, FULL, FULL, FULL, FULL);
    int[] want = {GROWN, 8, 512, 0, 0, 0, 8, 0, 512, 0, 0, 400, 1, 0, 1};
    for (int what = 0; what < 15; what++) {
      check.due("ofPiece(0, " + what + ")", hall.ofPiece(0, what), want[what]);
    }
  }

  private void ofLayerNoPiece() {
    MeltPool hall = withPieceAs(SAWN);
    for (int wrong : NO_PIECES) {
      check.refused("piece " + wrong, hall, IOB, () -> hall.ofLayer(wrong, 0, 0));
    }
  }

  private void ofLayerNoLayer() {
    MeltPool hall = withPieceAs(SAWN);
    for (int wrong : new int[] {LEAST, -1, 8, 9, MOST}) {
      for (int what = 0; what < 3; what++) {
        int asked = what;
        check.refused("layer " + wrong, hall, IOB, () -> hall.ofLayer(0, wrong, asked));
      }
    }
  }

  private void ofLayerNoWhat() {
    MeltPool hall = withPieceAs(SAWN);
    for (int wrong : new int[] {LEAST, -1, 3, 4, MOST}) {
      check.refused("what " + wrong, hall, IAE, () -> hall.ofLayer(0, 7, wrong));
    }
  }

  private void ofLayerEnds() {
    MeltPool hall = new MeltPool();
    hall.piece();
    hall.layer(0, 7, at(7, 7, 0, 0));
    long[] top = {at(7, 7, 0, 0), at(7, 7, 0, 0), 0L};
    long[] bottom = {0L, 0L, at(7, 7, 0, 0)};
    for (int what = 0; what < 3; what++) {
      check.due("ofLayer(0, 7, " + what + ")", hall.ofLayer(0, 7, what), top[what]);
      check.due("ofLayer(0, 0, " + what + ")", hall.ofLayer(0, 0, what), bottom[what]);
    }
  }

  // ---- promises 20 and 21

  private void ofNoPowder() {
    MeltPool hall = new MeltPool();
    check.refused("without powders", hall, IOB, () -> hall.ofPowder(0, 0));
    hall.powder(0, 10);
    for (int wrong : new int[] {LEAST, -1, 1, 6, MOST}) {
      check.refused("powder " + wrong, hall, IOB, () -> hall.ofPowder(wrong, 0));
    }
  }

  private void ofPowderNoWhat() {
    MeltPool hall = loaded();
    for (int wrong : new int[] {LEAST, -1, 5, 6, MOST}) {
      check.refused("what " + wrong, hall, IAE, () -> hall.ofPowder(0, wrong));
    }
  }

  private void ofPowderWithoutLoad() {
    MeltPool hall = loaded(70);
    check.due("all is load", hall.ofPowder(0, 1), 0);
    hall.unload(0);
    check.due("none is load", hall.ofPowder(0, 1), 70);
  }

  private void ofPowderMachine() {
    MeltPool hall = new MeltPool();
    hall.powder(0, 10);
    check.due("none", hall.ofPowder(0, 4), -1);
    hall.load(0, 0);
    check.due("machine 0", hall.ofPowder(0, 4), 0);
    hall.unload(0);
    check.due("none any more", hall.ofPowder(0, 4), -1);
    hall.load(1, 0);
    check.due("machine 1", hall.ofPowder(0, 4), 1);
  }

  private void ofNoMachine() {
    MeltPool hall = loaded();
    for (int wrong : new int[] {LEAST, -1, 2, MOST}) {
      check.refused("machine " + wrong, hall, IOB, () -> hall.ofMachine(wrong, 0));
    }
  }

  private void ofMachineNoWhat() {
    MeltPool hall = loaded();
    for (int wrong : new int[] {LEAST, -1, 5, 6, MOST}) {
      check.refused("what " + wrong, hall, IAE, () -> hall.ofMachine(1, wrong));
    }
  }

  private void ofMachineNone() {
    MeltPool hall = withPieceAs(GROWING);
    int[] growing = {1, 0, 2000, 0, 0};
    int[] grown = {1, 0, 2000 - 128, -1, 0};
    int[] unloaded = {1, -1, 0, -1, 0};
    int[] cleaned = {-1, -1, 0, -1, 0};
    ofMachineIs("as one is growing", hall, growing);
    hall.grow(0, 8);
    ofMachineIs("as it is grown", hall, grown);
    hall.unload(0);
    ofMachineIs("unloaded", hall, unloaded);
    hall.clean(0);
    ofMachineIs("cleaned", hall, cleaned);
  }

  private void ofMachineIs(String when, MeltPool hall, int[] want) {
    for (int what = 0; what < 5; what++) {
      check.due(when + ", " + what, hall.ofMachine(0, what), want[what]);
    }
  }

  // ---- promises 22 and 23

  private void warmWithoutOne() {
    check.due("none ever", loaded().warm(0, 0, 0), 0.0);
    for (int state = SOLID; state <= SCRAP; state++) {
      if (state != GROWING) {
        check.due("as it is " + state, withPieceAs(state).warm(0, 0, 0), 0.0);
      }
    }
    MeltPool hall = withPieceAs(GROWING);
    hall.grow(0, 1);
    check.due("in the other machine", hall.warm(1, 0, 0), 0.0);
    check.due("in this one", hall.warm(0, 0, 0), 1.0);
  }

  private void warmNoMachine() {
    MeltPool hall = withPieceAs(GROWING);
    for (int wrong : new int[] {LEAST, -1, 2, MOST}) {
      check.refused("machine " + wrong, hall, IOB, () -> hall.warm(wrong, 0, 0));
    }
  }

  private void warmNoPlace() {
    MeltPool hall = withPieceAs(GROWING);
    for (int machine = 0; machine < 2; machine++) {
      int asked = machine;
      for (int wrong : new int[] {LEAST, -1, 8, 9, MOST}) {
        check.refused("x " + wrong, hall, IOB, () -> hall.warm(asked, wrong, 3));
        check.refused("y " + wrong, hall, IOB, () -> hall.warm(asked, 3, wrong));
        check.refused("both " + wrong, hall, IOB, () -> hall.warm(asked, wrong, wrong));
      }
    }
  }

  private void warmEnds() {
    MeltPool hall = loaded();
    hall.start(0, told(hall, at(0, 7, 7, 7), 1L), 200, 5);
    hall.grow(0, 1);
    check.due("0, 0", hall.warm(0, 0, 0), 0.0);
    check.due("7, 0", hall.warm(0, 7, 0), 0.0);
    check.due("0, 7", hall.warm(0, 0, 7), 1.0);
    check.due("7, 7", hall.warm(0, 7, 7), 1.0);
  }

  private void densityWithoutCells() {
    MeltPool hall = new MeltPool();
    hall.piece();
    check.due("none told", hall.measure(0, 0), 0.0);
    hall.layer(0, 7, 1L);
    check.due("one", hall.measure(0, 0), 1.0);
    hall.layer(0, 7, 0L);
    check.due("none left", hall.measure(0, 0), 0.0);
  }

  private void curlNotStarted() {
    MeltPool hall = loaded();
    told(hall, 1L, 0xFF0000L);
    check.due("though some hang", hall.measure(0, 1), 0.0);
    hall.start(0, 0, 200, 5);
    check.due("started", hall.measure(0, 1), 0.0);
    hall.grow(0, 8);
    check.due("grown", hall.measure(0, 1), 1.0);
    hall.saw(0);
    check.due("scrap", hall.measure(0, 1), 1.0);
  }

  private void measureNoPiece() {
    MeltPool hall = withPieceAs(SAWN);
    for (int wrong : NO_PIECES) {
      check.refused("piece " + wrong, hall, IOB, () -> hall.measure(wrong, 0));
    }
  }

  private void measureNoWhat() {
    MeltPool hall = withPieceAs(SAWN);
    for (int wrong : new int[] {LEAST, -1, 2, 3, MOST}) {
      check.refused("what " + wrong, hall, IAE, () -> hall.measure(0, wrong));
    }
  }

  // ---- promises 24 and 25

  private void recallNoPowder() {
    MeltPool hall = new MeltPool();
    check.refused("without powders", hall, IOB, () -> hall.recall(0));
    hall.powder(0, 10);
    for (int wrong : new int[] {LEAST, -1, 1, 6, MOST}) {
      check.refused("powder " + wrong, hall, IOB, () -> hall.recall(wrong));
    }
  }

  private void recallNoneAndAll() {
    MeltPool hall = new MeltPool();
    for (int i = 0; i < 6; i++) {
      hall.powder(0, 100);
    }
    hall.blend(5, 0);
    told(hall, 1L);
    for (int i = 0; i < 6; i++) {
      check.due("recall(" + i + ") of a solid", hall.recall(i), 0);
    }
    hall.load(0, 5);
    hall.start(0, 0, 200, 5);
    check.due("as it is started", hall.recall(0), 1);
    hall.grow(0, 8);
    hall.saw(0);
    for (int i = 1; i < 4; i++) {
      grown(hall, 200, 5, 1L);
    }
    check.due("of all, scrap too", hall.recall(0), 15);
    check.due("of all", hall.recall(5), 15);
    check.due("of none", hall.recall(1), 0);
  }

  private void recallKeptPast() {
    MeltPool hall = loaded();
    hall.powder(1, 100);
    grown(hall, 200, 5, 1L);
    hall.unload(0);
    hall.blend(0, 1);
    check.due("blended later", hall.recall(1), 0);
    check.due("as it was", hall.recall(0), 1);
    hall.blend(1, 0);
    hall.load(0, 1);
    grown(hall, 200, 5, 1L);
    check.due("through another powder", hall.recall(0), 3);
    check.due("of that powder", hall.recall(1), 2);
  }

  private void manyNoWhat() {
    MeltPool hall = withPieceAs(SAWN);
    for (int wrong : new int[] {LEAST, -1, 8, 9, MOST}) {
      check.refused("what " + wrong, hall, IAE, () -> hall.many(wrong));
    }
  }

  private void manyAtFirst() {
    MeltPool hall = new MeltPool();
    for (int what = 0; what < 8; what++) {
      check.due("many(" + what + ")", hall.many(what), 0);
    }
  }

  private void manyOfFullHall() {
    MeltPool hall = fullHall();
    int[] want = {4, 6, 4, 4, 0, 12000 - 256, 0, 4};
    for (int what = 0; what < 8; what++) {
      check.due("many(" + what + ")", hall.many(what), want[what]);
    }
  }

  private void manyEver() {
    MeltPool hall = loaded();
    for (int i = 1; i < 5; i++) {
      grown(hall, 200, 5, 1L, 0x1FFFF0000L);
      check.due("strikes", hall.many(6), i);
      check.due("scraps", hall.many(4), i);
      check.due("layers", hall.many(7), 2 * i);
    }
    hall.clean(0);
    check.due("strikes", hall.many(6), 4);
    check.due("layers", hall.many(7), 8);
    MeltPool half = withPieceAs(GROWING);
    half.grow(0, 1);
    half.clean(0);
    check.due("layers of one that was cleaned away", half.many(7), 1);
    check.due("which is no strike", half.many(6), 0);
  }

  /** Four accepted pieces, each of a window of its own, and six powders. */
  private static MeltPool fullHall() {
    MeltPool hall = new MeltPool();
    for (int i = 0; i < 6; i++) {
      hall.powder(i % 3, 2000);
    }
    hall.load(0, 0);
    hall.load(1, 1);
    for (int i = 0; i < 4; i++) {
      hall.start(i % 2, told(hall, FULL), 200, 5 + i / 2);
      hall.grow(i % 2, 8);
      hall.relieve(i);
      hall.saw(i);
      hall.prove(i);
      hall.accept(i);
    }
    return hall;
  }

  // ---- promises 26 and 27

  private void wouldHoldNoPiece() {
    MeltPool hall = withPieceAs(SOLID);
    for (int wrong : NO_PIECES) {
      check.refused("piece " + wrong, hall, IOB, () -> hall.wouldHold(wrong, 0));
    }
  }

  private void wouldHoldNoWay() {
    MeltPool hall = withPieceAs(SOLID);
    for (int wrong : new int[] {LEAST, -1, 6, 7, MOST}) {
      check.refused("way " + wrong, hall, IAE, () -> hall.wouldHold(0, wrong));
    }
  }

  private void wouldHoldNothing() {
    MeltPool hall = new MeltPool();
    hall.piece();
    for (int way = 0; way < 6; way++) {
      check.due("way " + way, hall.wouldHold(0, way), 0);
    }
  }

  private void wouldHoldLowered() {
    MeltPool hall = new MeltPool();
    told(hall, 0L, 0L, 0L, 0L, 0L, 0L, 0L, at(3, 3));
    check.due("as it lies", hall.ofPiece(0, 5), 7);
    for (int way = 0; way < 6; way++) {
      check.due("way " + way, hall.wouldHold(0, way), 0);
    }
  }

  private void wouldHoldChangesNothing() {
    MeltPool hall = new MeltPool();
    told(hall, 0L, at(1, 2), 0L, at(5, 5, 6, 0));
    told(hall, 0x7L);
    long before = hall.digest();
    for (int way = 0; way < 6; way++) {
      hall.wouldHold(0, way);
      check.due("digest", hall.digest(), before);
    }
    check.due("its height", hall.ofPiece(0, 1), 4);
    check.due("its support", hall.ofPiece(0, 5), 1 + 3 + 3);
  }

  private void wouldHoldInEachState() {
    for (int state = SOLID; state <= SCRAP; state++) {
      check.due("as it is " + state, withPieceAs(state).wouldHold(0, 2), 0);
    }
    MeltPool hall = loaded();
    grown(hall, 200, 5, 1L, 0xFF0000L);
    int[] want = {8, 1, 0, 7, 16, 2};
    int[] got = new int[6];
    for (int way = 0; way < 6; way++) {
      got[way] = hall.wouldHold(0, way);
    }
    MeltPool solid = new MeltPool();
    told(solid, 1L, 0xFF0000L);
    for (int way = 0; way < 6; way++) {
      check.due("grown, way " + way, got[way], solid.wouldHold(0, way));
      check.due("way " + way, got[way], want[way]);
    }
  }

  private void bestWayNoPiece() {
    MeltPool hall = withPieceAs(SOLID);
    for (int wrong : NO_PIECES) {
      check.refused("piece " + wrong, hall, IOB, () -> hall.bestWay(wrong));
    }
  }

  private void bestWayOfNothing() {
    MeltPool hall = new MeltPool();
    hall.piece();
    check.due("bestWay(0)", hall.bestWay(0), 0);
  }

  private void fewestSupport() {
    // An H that lies, as long as y: its upper bar hangs at both sides, but it stands by itself.
    long bar = 0x7F7F7F7F7F7F7F7FL;
    MeltPool hall = new MeltPool();
    told(hall, bar, 0x0808080808080808L, bar);
    int[] support = {32, 32, 0, 0, 0, 0};
    for (int way = 0; way < 6; way++) {
      check.due("wouldHold(0, " + way + ")", hall.wouldHold(0, way), support[way]);
    }
    check.due("of height 7, not 3", hall.bestWay(0), 2);
  }

  private void leastHeight() {
    int[][] want = {{1, 0}, {2, 2}, {3, 2}, {8, 2}};
    for (int[] w : want) {
      MeltPool hall = new MeltPool();
      hall.piece();
      for (int k = 0; k < w[0]; k++) {
        hall.layer(0, k, 1L);
      }
      check.due("a pillar of " + w[0], hall.bestWay(0), w[1]);
    }
    MeltPool wall = new MeltPool();
    told(wall, 0xFL, 0xFL);
    check.due("a wall falls in y", wall.bestWay(0), 4);
  }

  private void smallestWay() {
    MeltPool cube = new MeltPool();
    told(cube, at(0, 0, 1, 0, 0, 1, 1, 1), at(0, 0, 1, 0, 0, 1, 1, 1));
    check.due("a cube", cube.bestWay(0), 0);
    MeltPool table = new MeltPool();
    told(table, 0x0808080808080808L, FULL);
    check.due("a wide T stands on its head", table.bestWay(0), 1);
    MeltPool full = new MeltPool();
    told(full, FULL, FULL, FULL, FULL, FULL, FULL, FULL, FULL);
    check.due("a full one", full.bestWay(0), 0);
  }

  private void bestWayChangesNothing() {
    MeltPool hall = new MeltPool();
    told(hall, 0L, at(1, 2), 0L, at(5, 5, 6, 0));
    long before = hall.digest();
    hall.bestWay(0);
    check.due("digest", hall.digest(), before);
    check.due("its height", hall.ofPiece(0, 1), 4);
  }

  // ---- promise 28

  private void bestSpeedNoPiece() {
    MeltPool hall = withPieceAs(SOLID);
    for (int wrong : NO_PIECES) {
      check.refused("piece " + wrong, hall, IOB, () -> hall.bestSpeed(wrong, 200));
    }
  }

  private void bestSpeedNoPower() {
    MeltPool hall = withPieceAs(SOLID);
    for (int wrong : new int[] {LEAST, -1, 0, 49, 401, MOST}) {
      check.refused("power " + wrong, hall, IAE, () -> hall.bestSpeed(0, wrong));
    }
    check.due("power 50", hall.bestSpeed(0, 50), 3);
    check.due("power 400", hall.bestSpeed(0, 400), 20);
  }

  private void bestSpeedOfNothing() {
    MeltPool hall = new MeltPool();
    hall.piece();
    for (int power : new int[] {50, 200, 400}) {
      check.due("power " + power, hall.bestSpeed(0, power), 20);
    }
  }

  private void greatestSpeed() {
    // LAYER 0 has a DEPTH of 1.25 times ENERGY: no LACK up to a SPEED of POWER / 16.
    int[][] want = {{50, 3}, {63, 3}, {64, 4}, {159, 9}, {160, 10}, {303, 18}, {304, 19},
        {319, 19}, {320, 20}, {400, 20}};
    MeltPool hall = new MeltPool();
    told(hall, FULL);
    for (int[] w : want) {
      check.due("power " + w[0], hall.bestSpeed(0, w[0]), w[1]);
    }
    told(hall, TELLING);
    check.due("power 200", hall.bestSpeed(1, 200), 14);
    check.due("power 199", hall.bestSpeed(1, 199), 13);
    told(hall, TELLING_TOO);
    check.due("power 200", hall.bestSpeed(2, 200), 13);
    check.due("power 201", hall.bestSpeed(2, 201), 14);
  }

  private void bestSpeedAsItLies() {
    MeltPool hall = new MeltPool();
    told(hall, 0L, at(0, 0));
    check.due("it hangs", hall.bestSpeed(0, 200), 18);
    hall.lay(0, 0);
    check.due("it lies", hall.bestSpeed(0, 200), 12);
  }

  private void bestSpeedWithoutStops() {
    MeltPool hall = loaded();
    hall.start(0, told(hall, TELLING), 200, 14);
    for (int k = 0; k < 4; k++) {
      hall.stop(0);
      check.due("bestSpeed()", hall.bestSpeed(0, 200), 14);
      hall.grow(0, 1);
    }
    check.due("bestSpeed()", hall.bestSpeed(0, 200), 14);
  }

  private void bestSpeedWithoutGrams() {
    MeltPool none = new MeltPool();
    told(none, FULL, FULL);
    check.due("no powder", none.bestSpeed(0, 200), 12);
    MeltPool hall = loaded(1);
    hall.start(0, told(hall, FULL, FULL), 200, 5);
    hall.grow(0, 8);
    check.due("too few grams", hall.bestSpeed(0, 200), 12);
  }

  private void bestSpeedWithoutCurl() {
    // The coater would strike in LAYER 1, yet LAYER 2 counts: it has the only LACK.
    MeltPool hall = new MeltPool();
    told(hall, 0L, 0xFFFFFFL, 0xFF000000L);
    check.due("beyond a strike", hall.bestSpeed(0, 200), 12);
    hall.layer(0, 2, 0L);
    check.due("without that layer", hall.bestSpeed(0, 200), 18);
  }

  private void bestSpeedInEachState() {
    for (int state = SOLID; state <= SCRAP; state++) {
      check.due("as it is " + state, withPieceAs(state).bestSpeed(0, 200), 12);
    }
    MeltPool hall = loaded();
    int piece = sawn(hall, 50, 20, FULL);
    hall.press(piece);
    check.due("of lacks", hall.bestSpeed(piece, 200), 12);
    check.due("of lacks, once more", hall.bestSpeed(piece, 50), 3);
  }

  private void bestSpeedOfFullOne() {
    MeltPool hall = new MeltPool();
    told(hall, FULL, FULL, FULL, FULL, FULL, FULL, FULL, FULL);
    check.due("a full one", hall.bestSpeed(0, 200), 12);
    told(hall, 0L, 0L, 0L, 0L, 0L, 0L, 0L, Long.MIN_VALUE);
    check.due("LAYER 7 alone, which hangs", hall.bestSpeed(1, 200), 18);
    // 1.25 times ENERGY in LAYER 0, 2.0 by 160 / 10; LAYER 7 has 1.5 times more than that.
    told(hall, 1L, 0L, 0L, 0L, 0L, 0L, 0L, Long.MIN_VALUE);
    check.due("LAYERS 0 and 7", hall.bestSpeed(2, 160), 10);
  }

  private void bestSpeedChangesNothing() {
    MeltPool hall = withPieceAs(GROWING);
    hall.grow(0, 1);
    long before = hall.digest();
    hall.bestSpeed(0, 200);
    check.due("digest", hall.digest(), before);
    check.due("warm", hall.warm(0, 0, 0), 1.0);
    check.due("lacks", hall.ofPiece(0, 7), 0);
    check.due("layers ever", hall.many(7), 1);
    hall.grow(0, 1);
    check.due("holes", hall.ofPiece(0, 8), 0);
  }

  // ---- promise 29

  private void digestOfNothing() {
    // 9608, eight times 0, then both MACHINES: NONE, NONE, 0, NONE, 0.
    BigInteger d = BigInteger.valueOf(9608);
    int[] values = {0, 0, 0, 0, 0, 0, 0, 0, -1, -1, 0, -1, 0, -1, -1, 0, -1, 0};
    for (int v : values) {
      d = d.multiply(BigInteger.valueOf(31)).add(BigInteger.valueOf(v));
    }
    check.due("digest()", new MeltPool().digest(), d.longValue());
  }

  private void digestWrapsAround() {
    MeltPool hall = fullHall();
    BigInteger d = unbound(hall);
    check.due("it is far beyond 64 bits", d.bitLength() > 800, true);
    check.due("digest()", hall.digest(), d.longValue());
  }

  private void digestOfTelling() {
    MeltPool hall = new MeltPool();
    told(hall, TELLING);
    check.due("bestSpeed(0, 200)", hall.bestSpeed(0, 200), 14);
    check.due("digest()", hall.digest(), unbound(hall).longValue());
    MeltPool other = new MeltPool();
    told(other, TELLING_TOO);
    check.due("bestSpeed(0, 200)", other.bestSpeed(0, 200), 13);
    check.due("digest()", other.digest(), unbound(other).longValue());
  }

  private void digestOfCurl() {
    // So many hang in LAYER 1, and the one of LAYER 2: 0.75 of each of the first ones is left.
    long[] want = {1, 1, 2, 3};
    for (int hanging = 0; hanging < 4; hanging++) {
      MeltPool hall = loaded();
      grown(hall, 200, 5, 1L, ((1L << hanging) - 1) << 24, 1L);
      check.due("cut", (long) (hall.measure(0, 1) * 8), want[hanging]);
      check.due("digest()", hall.digest(), unbound(hall).longValue());
    }
    MeltPool less = loaded();
    grown(less, 200, 5, 1L, 1L << 24, 1L << 24);
    check.due("0.75 is cut to 0", (long) (less.measure(0, 1) * 8), 0L);
    check.due("digest()", less.digest(), unbound(less).longValue());
    MeltPool most = loaded();
    grown(most, 200, 5, 0L, FULL);
    check.due("64 hang", (long) (most.measure(0, 1) * 8), 64L);
    check.due("digest()", most.digest(), unbound(most).longValue());
  }

  private void digestChangesNothing() {
    MeltPool hall = withPieceAs(GROWING);
    hall.grow(0, 1);
    long first = hall.digest();
    check.due("digest() again", hall.digest(), first);
    check.due("warm", hall.warm(0, 0, 0), 1.0);
    check.due("it grows on", hall.grow(0, 8), 1);
    check.due("another one", hall.digest() == first, false);
  }

  /** The checksum before it wraps around, put together by the other calls. */
  private static BigInteger unbound(MeltPool hall) {
    BigInteger d = BigInteger.valueOf(9608);
    for (int what = 0; what < 8; what++) {
      d = next(d, hall.many(what));
    }
    for (int piece = 0; piece < hall.many(0); piece++) {
      for (int what = 0; what < 15; what++) {
        d = next(d, hall.ofPiece(piece, what));
      }
      d = next(d, (long) (hall.measure(piece, 1) * 8));
      d = next(d, hall.bestWay(piece));
      d = next(d, hall.bestSpeed(piece, 200));
      for (int n = 0; n < 24; n++) {
        d = next(d, hall.ofLayer(piece, n / 3, n % 3));
      }
    }
    for (int powder = 0; powder < hall.many(1); powder++) {
      for (int what = 0; what < 5; what++) {
        d = next(d, hall.ofPowder(powder, what));
      }
      d = next(d, hall.recall(powder));
    }
    for (int n = 0; n < 10; n++) {
      d = next(d, hall.ofMachine(n / 5, n % 5));
    }
    return d;
  }

  private static BigInteger next(BigInteger d, long v) {
    return d.multiply(BigInteger.valueOf(31)).add(BigInteger.valueOf(v));
  }
}
