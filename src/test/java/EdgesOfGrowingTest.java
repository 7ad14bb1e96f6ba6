/** A test for each sentence with a boundary of "3. Growing" and of promises 10 to 12. */
public final class EdgesOfGrowingTest extends Halls {
  public static void main(String[] args) {
    EdgesOfGrowingTest test = new EdgesOfGrowingTest();
    test.starting();
    test.shortage();
    test.light();
    test.coater();
    test.ends();
    test.stopping();
    test.check.end();
  }

  private void starting() {
    edge("promise 10: throws if machine is not 0 or 1", this::startNoMachine);
    edge("promise 10: throws if .. there is no such PIECE", this::startNoPiece);
    edge("3. a POWER (50 to 400)", this::startNoPower);
    edge("3. a SPEED (1 to 20)", this::startNoSpeed);
    edge("promise 10: throws if it is no SOLID", this::startNoSolid);
    edge("promise 10: throws if it .. has no CELLS", this::startEmptyOne);
    edge("promise 10: throws if .. one is GROWING there", this::startBesideOne);
    edge("promise 10: throws if .. no POWDER is in the MACHINE", this::startWithoutPowder);
    edge("promise 10: returns how many LAYERS it has to get", this::layersToGet);
    edge("3. USES and PAST are kept for it", this::usesAndPastAreKept);
    edge("3. a POWDER that has a LOAD of 0 is in the MACHINE", this::startWithoutLoad);
  }

  private void shortage() {
    edge("3. SHORT, if there is less; just enough is not", this::justEnough);
    edge("3. SHORT counts the CELLS of SUPPORT of that LAYER", this::supportNeedsGrams);
    edge("3. SHORT: nothing is done", this::shortDoesNothing);
    edge("3. a LAYER without CELLS needs its SUPPORT alone", this::emptyLayer);
    edge("promise 11: as long as nothing is SHORT", this::growUntilShort);
  }

  private void light() {
    edge("3. WARM: 0.0 at first", this::warmAtFirst);
    edge("3. WARM * 0.5, and, if it has a CELL there, ENERGY * 0.25 more", this::warmOfLayers);
    edge("3. ENERGY is (double) POWER / SPEED / 10.0", this::energyIsNotCut);
    edge("3. a LACK, if DEPTH is below 2.0", this::lackBelowTwo);
    edge("3. a HOLE, if DEPTH is above 6.0", this::holeAboveSix);
    edge("3. DEPTH is ENERGY + WARM (the new one)", this::depthOfNewWarm);
    edge("3. DEPTH of one that HANGS: times 1.5", this::depthOfHanging);
    edge("3. SUPPORT neither warms nor has a DEPTH", this::supportIsDark);
  }

  private void coater() {
    edge("3. CURL: 0.0 at first, CURL * 0.75 + 0.125 * how many HANG", this::curlOfLayers);
    edge("3. it STRIKES, if CURL is above 2.0", this::strikeAboveTwo);
    edge("3. it STRIKES: that LAYER counts as done", this::struckLayerCounts);
    edge("promise 11: as long as .. the coater does not STRIKE", this::growUntilStrike);
    edge("3. behind the last LAYER it is GROWN, if it is not SCRAP", this::strikeInLastLayer);
    edge("3. as it is SCRAP .. the MACHINE is free; its POWDER stays", this::freeByStrike);
  }

  private void ends() {
    edge("promise 11: throws if machine is not 0 or 1", this::growNoMachine);
    edge("promise 11: throws if layers is not 1 to 8", this::growNoLayers);
    edge("promise 11: throws if none is GROWING there", this::growNone);
    edge("promise 11: as long as .. the last one is not done", this::growUntilLast);
    edge("promise 11: layers at most", this::growAtMost);
    edge("3. as it is .. GROWN, the MACHINE is free; its POWDER stays", this::freeByLast);
  }

  private void stopping() {
    edge("3. STOP: all WARM is 0.0 again", this::stopCools);
    edge("3. STOP: nothing else is lost", this::stopLeavesTheRest);
    edge("3. STOPS of the PIECE are counted", this::stopsAreCounted);
    edge("an object is used for at most 512 calls: the most STOPS", this::mostStops);
    edge("promise 12: throws if machine is not 0 or 1", this::stopNoMachine);
    edge("promise 12: throws if none is GROWING there", this::stopNone);
  }

  // ---- promise 10

  private void startNoMachine() {
    MeltPool hall = withPieceAs(SOLID);
    for (int wrong : new int[] {LEAST, -1, 2, MOST}) {
      check.refused("machine " + wrong, hall, IOB, () -> hall.start(wrong, 0, 200, 5));
    }
  }

  private void startNoPiece() {
    MeltPool hall = withPieceAs(SOLID);
    for (int wrong : new int[] {LEAST, -1, 1, 4, MOST}) {
      check.refused("piece " + wrong, hall, IOB, () -> hall.start(0, wrong, 200, 5));
    }
  }

  private void startNoPower() {
    MeltPool hall = withPieceAs(SOLID);
    for (int wrong : new int[] {LEAST, -50, 0, 49, 401, MOST}) {
      check.refused("power " + wrong, hall, IAE, () -> hall.start(0, 0, wrong, 5));
    }
    for (int good : new int[] {50, 400}) {
      MeltPool other = withPieceAs(SOLID);
      check.due("power " + good, other.start(0, 0, good, 5), 2);
      check.due("power", other.ofPiece(0, 11), good);
    }
  }

  private void startNoSpeed() {
    MeltPool hall = withPieceAs(SOLID);
    for (int wrong : new int[] {LEAST, -1, 0, 21, MOST}) {
      check.refused("speed " + wrong, hall, IAE, () -> hall.start(0, 0, 200, wrong));
    }
    for (int good : new int[] {1, 20}) {
      MeltPool other = withPieceAs(SOLID);
      check.due("speed " + good, other.start(0, 0, 200, good), 2);
      check.due("speed", other.ofPiece(0, 12), good);
    }
  }

  private void startNoSolid() {
    for (int state = GROWING; state <= SCRAP; state++) {
      MeltPool hall = withPieceAs(state);
      hall.powder(1, 100);
      hall.load(1, 1);
      check.refused("as it is " + state, hall, ISE, () -> hall.start(0, 0, 200, 5));
      check.refused("in the other machine", hall, ISE, () -> hall.start(1, 0, 200, 5));
    }
  }

  private void startEmptyOne() {
    MeltPool hall = loaded();
    hall.piece();
    check.refused("none told", hall, ISE, () -> hall.start(0, 0, 200, 5));
    hall.layer(0, 5, 1L);
    hall.layer(0, 5, 0L);
    check.refused("none left", hall, ISE, () -> hall.start(0, 0, 200, 5));
    hall.layer(0, 7, Long.MIN_VALUE);
    check.due("one cell", hall.start(0, 0, 200, 5), 8);
  }

  private void startBesideOne() {
    MeltPool hall = withPieceAs(GROWING);
    hall.powder(2, 100);
    hall.load(1, 1);
    told(hall, FULL);
    check.refused("one is growing", hall, ISE, () -> hall.start(0, 1, 200, 5));
    check.due("in the other machine", hall.start(1, 1, 200, 5), 1);
    told(hall, FULL);
    check.refused("one is growing in that", hall, ISE, () -> hall.start(1, 2, 200, 5));
    hall.grow(0, 8);
    check.due("as it is grown", hall.start(0, 2, 200, 5), 1);
  }

  private void startWithoutPowder() {
    MeltPool hall = loaded();
    told(hall, FULL);
    check.refused("none ever", hall, ISE, () -> hall.start(1, 0, 200, 5));
    hall.unload(0);
    check.refused("none any more", hall, ISE, () -> hall.start(0, 0, 200, 5));
    hall.load(0, 0);
    hall.clean(0);
    check.refused("none behind a clean", hall, ISE, () -> hall.start(0, 0, 200, 5));
  }

  private void layersToGet() {
    for (int k = 0; k < 8; k++) {
      MeltPool hall = loaded();
      hall.piece();
      hall.layer(0, k, 1L);
      check.due("of layer " + k + " alone", hall.start(0, 0, 200, 5), k + 1);
      check.due("they are grown", hall.grow(0, 8), k + 1);
    }
  }

  private void usesAndPastAreKept() {
    MeltPool hall = new MeltPool();
    for (int i = 0; i < 6; i++) {
      hall.powder(0, 100);
    }
    for (int i = 1; i < 6; i++) {
      hall.blend(0, i);
    }
    for (int i = 0; i < 4; i++) {
      hall.load(0, 0);
      hall.unload(0);
    }
    hall.load(0, 0);
    check.due("uses of one that was not started", hall.ofPiece(told(hall, 1L), 13), -1);
    check.due("past of one that was not started", hall.ofPiece(0, 14), -1);
    hall.start(0, 0, 200, 5);
    check.due("uses", hall.ofPiece(0, 13), 4);
    check.due("past", hall.ofPiece(0, 14), 63);
    hall.grow(0, 8);
    hall.unload(0);
    check.due("uses, though the powder has more", hall.ofPiece(0, 13), 4);
    MeltPool later = loaded();
    later.powder(1, 5);
    grown(later, 200, 5, 1L);
    later.unload(0);
    later.blend(0, 1);
    check.due("past, though the powder has more", later.ofPiece(0, 14), 1);
    check.due("uses of a new powder", later.ofPiece(0, 13), 0);
  }

  private void startWithoutLoad() {
    MeltPool hall = loaded(64);
    grown(hall, 200, 5, FULL);
    check.due("load", hall.ofMachine(0, 2), 0);
    check.due("start()", hall.start(0, told(hall, 1L), 200, 5), 1);
    check.due("grow()", hall.grow(0, 8), 0);
    check.due("it is growing", hall.ofPiece(1, 0), GROWING);
  }

  // ---- what a layer needs

  private void justEnough() {
    for (int grams = 9; grams <= 11; grams++) {
      MeltPool hall = loaded(grams);
      hall.start(0, told(hall, 0x3FFL), 200, 5);
      check.due("10 cells of " + grams, hall.grow(0, 8), grams < 10 ? 0 : 1);
      check.due("load then", hall.ofMachine(0, 2), grams < 10 ? grams : grams - 10);
    }
  }

  private void supportNeedsGrams() {
    // Layer 0 needs 1 and the 3 that support, layer 1 those 3 alone, layer 2 its 3 cells.
    for (int grams = 3; grams <= 10; grams++) {
      MeltPool hall = loaded(grams);
      hall.start(0, told(hall, 1L, 0L, at(5, 5, 6, 5, 7, 5)), 200, 5);
      int want = grams < 4 ? 0 : grams < 7 ? 1 : grams < 10 ? 2 : 3;
      check.due("of " + grams + " grams", hall.grow(0, 8), want);
      check.due("load then", hall.ofMachine(0, 2), new int[] {grams, grams - 4, grams - 7, 0}[want]);
    }
  }

  private void shortDoesNothing() {
    MeltPool hall = loaded(100);
    hall.start(0, told(hall, 0xFFFFFFFFFFFFFFL, FULL), 200, 5);
    hall.grow(0, 1);
    long before = hall.digest();
    check.due("load", hall.ofMachine(0, 2), 44);
    check.due("grow()", hall.grow(0, 8), 0);
    check.due("grow() again", hall.grow(0, 1), 0);
    check.due("digest", hall.digest(), before);
    check.due("warm", hall.warm(0, 0, 0), 1.0);
    check.due("layers done", hall.ofPiece(0, 6), 1);
    check.due("layers ever", hall.many(7), 1);
    check.due("it is growing", hall.ofMachine(0, 3), 0);
  }

  private void emptyLayer() {
    // Each empty LAYER below HEIGHT has SUPPORT: what lies next above it hangs.
    MeltPool thin = loaded(2);
    thin.start(0, told(thin, at(0, 0), 0L, at(0, 0)), 200, 5);
    check.due("support in the gap", thin.grow(0, 8), 2);
    check.due("load", thin.ofMachine(0, 2), 0);
    check.due("it is growing", thin.ofPiece(0, 0), GROWING);
    MeltPool none = loaded(1);
    none.start(0, told(none, at(0, 0), 0L, at(0, 0)), 200, 5);
    check.due("no gram for the gap", none.grow(0, 8), 1);
    MeltPool gap = loaded(5);
    gap.start(0, told(gap, 0L, 0L, 0L, 0L, at(7, 7)), 200, 5);
    check.due("support alone", gap.grow(0, 4), 4);
    check.due("load", gap.ofMachine(0, 2), 1);
    check.due("lacks of support", gap.ofPiece(0, 7), 0);
    check.due("the cell", gap.grow(0, 1), 1);
    check.due("it is grown", gap.ofPiece(0, 0), GROWN);
  }

  private void growUntilShort() {
    MeltPool hall = loaded(30);
    hall.start(0, told(hall, 0xFFL, 0xFFL, 0xFFL, 0xFFL), 200, 5);
    check.due("grow(0, 8)", hall.grow(0, 8), 3);
    check.due("load", hall.ofMachine(0, 2), 6);
    check.due("grow(0, 8)", hall.grow(0, 8), 0);
    check.due("it is growing", hall.ofPiece(0, 0), GROWING);
  }

  // ---- what the light does

  private void warmAtFirst() {
    MeltPool hall = withPieceAs(GROWING);
    for (int place = 0; place < 64; place++) {
      check.due("warm", hall.warm(0, place % 8, place / 8), 0.0);
    }
    hall.grow(0, 1);
    check.due("behind a layer", hall.warm(0, 3, 3), 1.0);
    hall.grow(0, 1);
    hall.start(0, told(hall, FULL, FULL), 200, 5);
    check.due("of the next piece", hall.warm(0, 3, 3), 0.0);
    hall.grow(0, 1);
    check.due("of the next piece behind a layer", hall.warm(0, 3, 3), 1.0);
  }

  private void warmOfLayers() {
    MeltPool hall = loaded();
    hall.start(0, told(hall, 3L, 3L, 1L, 1L, 3L, 1L), 200, 5);
    double[] first = {1.0, 1.5, 1.75, 1.875, 1.9375};
    double[] second = {1.0, 1.5, 0.75, 0.375, 1.1875};
    for (int k = 0; k < 5; k++) {
      hall.grow(0, 1);
      check.due("a cell in each layer, " + k, hall.warm(0, 0, 0), first[k]);
      check.due("not in layers 2 and 3, " + k, hall.warm(0, 1, 0), second[k]);
      check.due("no cell ever, " + k, hall.warm(0, 2, 0), 0.0);
    }
  }

  private void energyIsNotCut() {
    MeltPool hall = loaded();
    hall.start(0, told(hall, FULL, FULL), 199, 20);
    hall.grow(0, 1);
    check.due("199 / 20 / 10", hall.warm(0, 0, 0), 199.0 / 20 / 10.0 * 0.25);
    MeltPool third = loaded();
    third.start(0, told(third, FULL, FULL), 55, 7);
    third.grow(0, 1);
    check.due("55 / 7 / 10", third.warm(0, 0, 0), (double) 55 / 7 / 10.0 * 0.25);
    MeltPool least = loaded();
    least.start(0, told(least, FULL, FULL), 50, 20);
    least.grow(0, 1);
    check.due("the least one", least.warm(0, 0, 0), 0.0625);
    MeltPool most = loaded();
    most.start(0, told(most, FULL, FULL), 400, 1);
    most.grow(0, 1);
    check.due("the greatest one", most.warm(0, 0, 0), 10.0);
  }

  private static int flaws(int what, int power, int speed, long... layers) {
    MeltPool hall = loaded();
    return hall.ofPiece(grown(hall, power, speed, layers), what);
  }

  private void lackBelowTwo() {
    check.due("2.0 is none", flaws(7, 160, 10, FULL), 0);
    check.due("less is one", flaws(7, 159, 10, FULL), 64);
    check.due("which is no hole", flaws(8, 159, 10, FULL), 0);
    check.due("the least depth", flaws(7, 50, 20, FULL), 64);
  }

  private void holeAboveSix() {
    check.due("6.0 is none", flaws(8, 240, 5, FULL), 0);
    check.due("more is one", flaws(8, 241, 5, FULL), 64);
    check.due("which is no lack", flaws(7, 241, 5, FULL), 0);
    check.due("the greatest depth", flaws(8, 400, 1, FULL), 64);
  }

  private void depthOfNewWarm() {
    // 1.375 times ENERGY in the second LAYER: 2.0 is reached by a POWER of 14.55 times SPEED.
    check.due("warm brings it to 2.0", flaws(7, 146, 10, 1L, 1L), 1);
    check.due("not quite", flaws(7, 145, 10, 1L, 1L), 2);
    check.due("warm brings it to 6.0", flaws(8, 218, 5, 1L, 1L), 0);
    check.due("beyond", flaws(8, 219, 5, 1L, 1L), 1);
  }

  private void depthOfHanging() {
    check.due("6.0 is no hole", flaws(8, 160, 5, 1L, 0xF0L), 0);
    check.due("more is one", flaws(8, 161, 5, 1L, 0xF0L), 4);
    // 1.875 times ENERGY: 2.0 is reached by a POWER of 10.67 times SPEED.
    check.due("it keeps from a lack", flaws(7, 107, 10, 1L, 0xF0L), 1);
    check.due("not quite", flaws(7, 106, 10, 1L, 0xF0L), 5);
    check.due("beside one below: not hanging", flaws(8, 161, 5, 1L, 2L), 0);
  }

  private void supportIsDark() {
    MeltPool hall = loaded();
    hall.start(0, told(hall, 0L, 0L, at(6, 1)), 400, 20);
    hall.grow(0, 2);
    check.due("warm", hall.warm(0, 6, 1), 0.0);
    check.due("lacks", hall.ofPiece(0, 7), 0);
    hall.grow(0, 1);
    check.due("flaws", hall.ofPiece(0, 7) + hall.ofPiece(0, 8), 0);
    check.due("density", hall.measure(0, 0), 1.0);
    MeltPool deep = loaded();
    int piece = grown(deep, 400, 1, 0L, 0L, at(6, 1));
    check.due("holes of a cell with 2 of support", deep.ofPiece(piece, 8), 1);
  }

  // ---- the coater

  private void curlOfLayers() {
    MeltPool hall = loaded();
    hall.start(0, told(hall, 1L, 0xFF0000L, 0xFF0000L, 0xFFL, 0xFFL), 200, 5);
    double[] want = {0.0, 1.0, 0.75, 0.75 * 0.75 + 1.0, (0.75 * 0.75 + 1.0) * 0.75};
    check.due("at first", hall.measure(0, 1), 0.0);
    for (int k = 0; k < 5; k++) {
      hall.grow(0, 1);
      check.due("behind layer " + k, hall.measure(0, 1), want[k]);
    }
    check.due("strikes", hall.many(6), 0);
  }

  private void strikeAboveTwo() {
    MeltPool even = loaded();
    check.due("16 hang", even.measure(grown(even, 200, 5, 1L, 0xFFFF0000L), 1), 2.0);
    check.due("which is no strike", even.ofPiece(0, 0), GROWN);
    check.due("strikes", even.many(6), 0);
    MeltPool more = loaded();
    check.due("17 hang", more.measure(grown(more, 200, 5, 1L, 0x1FFFF0000L), 1), 2.125);
    check.due("which is a strike", more.ofPiece(0, 0), SCRAP);
    check.due("strikes", more.many(6), 1);
    MeltPool sum = loaded();
    check.due("16, then 4 to 2.0", sum.measure(grown(sum, 200, 5, 1L, 0xFFFF0000L, 0xFL), 1), 2.0);
    check.due("16, then 5", sum.measure(grown(sum, 200, 5, 1L, 0xFFFF0000L, 0x1FL), 1), 2.125);
    check.due("strikes", sum.many(6), 1);
  }

  private void struckLayerCounts() {
    MeltPool hall = loaded();
    hall.start(0, told(hall, 1L, 0x1FFFF0000L, 1L), 50, 20);
    check.due("grow(0, 8)", hall.grow(0, 8), 2);
    check.due("layers done", hall.ofPiece(0, 6), 2);
    check.due("layers ever", hall.many(7), 2);
    check.due("its lacks", hall.ofPiece(0, 7), 18);
    check.due("its grams", hall.ofMachine(0, 2), 2000 - 18 - 17 - 1);
  }

  private void growUntilStrike() {
    MeltPool hall = loaded();
    hall.start(0, told(hall, 1L, 0xFFFF00000000L, 0xFFFF0000000000L, 0xFFFFL, FULL), 200, 5);
    check.due("grow(0, 8)", hall.grow(0, 8), 4);
    check.due("scrap", hall.ofPiece(0, 0), SCRAP);
    check.due("strikes", hall.many(6), 1);
    check.refused("grow on", hall, ISE, () -> hall.grow(0, 8));
  }

  private void strikeInLastLayer() {
    MeltPool hall = loaded();
    int struck = grown(hall, 200, 5, 1L, 0x1FFFF0000L);
    check.due("it has all layers", hall.ofPiece(struck, 6), hall.ofPiece(struck, 1));
    check.due("it is scrap", hall.ofPiece(struck, 0), SCRAP);
    check.due("scraps", hall.many(4), 1);
    check.due("without a strike", hall.ofPiece(grown(hall, 200, 5, 1L, 0xFFFF0000L), 0), GROWN);
  }

  private void freeByStrike() {
    MeltPool hall = loaded();
    grown(hall, 200, 5, 1L, 0x1FFFF0000L, 1L);
    check.due("none is growing", hall.ofMachine(0, 3), -1);
    check.due("powder", hall.ofMachine(0, 1), 0);
    check.due("load", hall.ofMachine(0, 2), 2000 - 18 - 18);
    check.due("dust", hall.ofMachine(0, 0), 1);
    check.due("warm", hall.warm(0, 0, 0), 0.0);
    check.due("start another", hall.start(0, told(hall, 1L), 200, 5), 1);
  }

  // ---- promise 11

  private void growNoMachine() {
    MeltPool hall = withPieceAs(GROWING);
    for (int wrong : new int[] {LEAST, -1, 2, MOST}) {
      check.refused("machine " + wrong, hall, IOB, () -> hall.grow(wrong, 1));
    }
  }

  private void growNoLayers() {
    MeltPool hall = withPieceAs(GROWING);
    for (int wrong : new int[] {LEAST, -1, 0, 9, MOST}) {
      check.refused("layers " + wrong, hall, IAE, () -> hall.grow(0, wrong));
    }
    check.due("layers 1", hall.grow(0, 1), 1);
    check.due("layers 8", hall.grow(0, 8), 1);
  }

  private void growNone() {
    for (int state = SOLID; state <= SCRAP; state++) {
      if (state != GROWING) {
        MeltPool hall = withPieceAs(state);
        check.refused("one is " + state, hall, ISE, () -> hall.grow(0, 1));
      }
    }
    MeltPool hall = withPieceAs(GROWING);
    check.refused("in the other machine", hall, ISE, () -> hall.grow(1, 1));
    hall.clean(0);
    check.refused("behind a clean", hall, ISE, () -> hall.grow(0, 1));
  }

  private void growUntilLast() {
    MeltPool hall = loaded();
    hall.start(0, told(hall, 1L, 1L, 1L), 200, 5);
    check.due("grow(0, 8)", hall.grow(0, 8), 3);
    check.due("layers done", hall.ofPiece(0, 6), 3);
    check.due("grown", hall.ofPiece(0, 0), GROWN);
    check.refused("grow on", hall, ISE, () -> hall.grow(0, 1));
    hall.start(0, told(hall, 1L, 1L, 1L, 1L, 1L, 1L, 1L, 1L), 200, 5);
    check.due("all 8", hall.grow(0, 8), 8);
    check.due("grown", hall.ofPiece(1, 0), GROWN);
  }

  private void growAtMost() {
    MeltPool hall = loaded();
    hall.start(0, told(hall, 1L, 1L, 1L, 1L, 1L, 1L, 1L, 1L), 200, 5);
    check.due("grow(0, 1)", hall.grow(0, 1), 1);
    check.due("grow(0, 2)", hall.grow(0, 2), 2);
    check.due("grow(0, 4)", hall.grow(0, 4), 4);
    check.due("it is growing", hall.ofPiece(0, 0), GROWING);
    check.due("grow(0, 1)", hall.grow(0, 1), 1);
    check.due("grown", hall.ofPiece(0, 0), GROWN);
  }

  private void freeByLast() {
    MeltPool hall = loaded();
    grown(hall, 200, 5, FULL);
    check.due("none is growing", hall.ofMachine(0, 3), -1);
    check.due("powder", hall.ofMachine(0, 1), 0);
    check.due("load", hall.ofMachine(0, 2), 2000 - 64);
    check.due("the powder's machine", hall.ofPowder(0, 4), 0);
    check.due("warm", hall.warm(0, 0, 0), 0.0);
    check.due("start another", hall.start(0, told(hall, 1L), 200, 5), 1);
  }

  // ---- promise 12

  private void stopCools() {
    MeltPool hall = withPieceAs(GROWING);
    hall.grow(0, 1);
    hall.stop(0);
    for (int place = 0; place < 64; place++) {
      check.due("warm", hall.warm(0, place % 8, place / 8), 0.0);
    }
    MeltPool both = loaded();
    both.powder(0, 500);
    both.load(1, 1);
    for (int machine = 0; machine < 2; machine++) {
      both.start(machine, told(both, FULL, FULL), 200, 5);
      both.grow(machine, 1);
    }
    both.stop(1);
    check.due("the other machine", both.warm(0, 0, 0), 1.0);
    check.due("the one", both.warm(1, 0, 0), 0.0);
    // 146 / 10: the second LAYER is a LACK only without the WARM of the first one.
    MeltPool cold = loaded();
    cold.start(0, told(cold, 1L, 1L), 146, 10);
    cold.grow(0, 1);
    cold.stop(0);
    cold.grow(0, 1);
    check.due("lacks", cold.ofPiece(0, 7), 2);
  }

  private void stopLeavesTheRest() {
    MeltPool hall = loaded();
    hall.start(0, told(hall, 1L, 0xFF00L, 0xFF00L), 50, 20);
    hall.grow(0, 2);
    hall.stop(0);
    check.due("curl", hall.measure(0, 1), 0.875);
    check.due("lacks", hall.ofPiece(0, 7), 9);
    check.due("layers done", hall.ofPiece(0, 6), 2);
    check.due("it is growing", hall.ofMachine(0, 3), 0);
    check.due("load", hall.ofMachine(0, 2), 2000 - 8 - 8);
    check.due("it grows on", hall.grow(0, 8), 1);
  }

  private void stopsAreCounted() {
    MeltPool hall = withPieceAs(GROWING);
    check.due("at first", hall.ofPiece(0, 9), 0);
    for (int i = 1; i < 5; i++) {
      check.due("stop(0)", hall.stop(0), i);
      check.due("stops", hall.ofPiece(0, 9), i);
    }
    hall.grow(0, 8);
    hall.start(0, told(hall, 1L), 200, 5);
    check.due("of the next piece", hall.stop(0), 1);
    check.due("of the first one", hall.ofPiece(0, 9), 4);
  }

  private void mostStops() {
    MeltPool hall = withPieceAs(GROWING);
    int stops = 0;
    for (int calls = 6; calls < 510; calls++) {
      stops = hall.stop(0);
    }
    check.due("504 stops", stops, 504);
    check.due("stops", hall.ofPiece(0, 9), 504);
    check.due("the 512th call", hall.grow(0, 8), 2);
  }

  private void stopNoMachine() {
    MeltPool hall = withPieceAs(GROWING);
    for (int wrong : new int[] {LEAST, -1, 2, MOST}) {
      check.refused("machine " + wrong, hall, IOB, () -> hall.stop(wrong));
    }
  }

  private void stopNone() {
    for (int state = SOLID; state <= SCRAP; state++) {
      if (state != GROWING) {
        MeltPool hall = withPieceAs(state);
        check.refused("one is " + state, hall, ISE, () -> hall.stop(0));
      }
    }
    MeltPool hall = withPieceAs(GROWING);
    check.refused("in the other machine", hall, ISE, () -> hall.stop(1));
    hall.clean(0);
    check.refused("behind a clean", hall, ISE, () -> hall.stop(0));
  }
}
