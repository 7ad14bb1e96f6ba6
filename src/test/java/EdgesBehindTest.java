/** A test for each sentence with a boundary of "4. Behind it" and of promises 13 to 17. */
public final class EdgesBehindTest extends Halls {
  private static final int[] NO_PIECES = {LEAST, -1, 1, 4, MOST};

  public static void main(String[] args) {
    EdgesBehindTest test = new EdgesBehindTest();
    test.states();
    test.pressing();
    test.density();
    test.proofs();
    test.accepting();
    test.check.end();
  }

  private void states() {
    edge("4. a PIECE is (in order) 0 a SOLID .. 6 SCRAP", this::eachState);
    edge("4. RELIEVED can be one that is GROWN; promise 13: throws if it is not", this::relieveStates);
    edge("promise 13: throws if there is no such PIECE", this::relieveNoPiece);
    edge("promise 13: returns the LACKS that it has", this::relieveTellsLacks);
    edge("4. one that is sawn as it is GROWN is SCRAP", this::sawGrown);
    edge("4. one that is RELIEVED is SAWN", this::sawRelieved);
    edge("promise 14: throws if it is not GROWN or RELIEVED", this::sawStates);
    edge("promise 14: throws if there is no such PIECE", this::sawNoPiece);
  }

  private void pressing() {
    edge("4. its LACKS are a fourth of what they were, rounded down", this::pressRounds);
    edge("4. PRESS: HOLES stay", this::pressLeavesHoles);
    edge("promise 15: throws if it is not RELIEVED or SAWN", this::pressStates);
    edge("promise 15: throws if there is no such PIECE", this::pressNoPiece);
  }

  private void density() {
    edge("4. DENSITY: from 1.0 to 0.0", this::densityEnds);
    edge("4. DENSITY: LACKS and HOLES count alike", this::densityOfEach);
    edge("4. DENSITY: as LACKS are pressed", this::densityOfPressed);
  }

  private void proofs() {
    edge("4. with a DENSITY of 0.95 or more, proves its WINDOW", this::proveFromDensity);
    edge("4. (also if it was PROVED before), each once", this::proveAgain);
    edge("3. its WINDOW is the MACHINE, ..", this::windowsOfMachines);
    edge("3. its WINDOW is .. the ALLOY, ..", this::windowsOfAlloys);
    edge("3. its WINDOW is .. POWER ..", this::windowsOfPowers);
    edge("3. its WINDOW is .. and SPEED", this::windowsOfSpeeds);
    edge("3. WINDOWS at the ends of POWER and SPEED", this::windowsAtTheEnds);
    edge("4. STOPS bar no proof", this::stopsBarNoProof);
    edge("4. a MACHINE that is CLEANED loses its proofs, and can get them anew", this::proveBehindClean);
    edge("promise 16: throws if it is not SAWN", this::proveStates);
    edge("promise 16: throws if there is no such PIECE", this::proveNoPiece);
  }

  private void accepting() {
    edge("4. ACCEPTED, if .. its WINDOW is PROVED (1)", this::acceptUnproved);
    edge("4. ACCEPTED, if .. DENSITY is 0.95 or more (2)", this::acceptFromDensity);
    edge("4. ACCEPTED, if .. it was not STOPPED more than once (3)", this::acceptStopped);
    edge("promise 17: the first that bars it", this::acceptFirstBar);
    edge("promise 17: one that is barred stays SAWN", this::barredStaysSawn);
    edge("promise 17: throws if it is not SAWN", this::acceptStates);
    edge("promise 17: throws if there is no such PIECE", this::acceptNoPiece);
  }

  // ---- states

  private void eachState() {
    for (int state = SOLID; state <= SCRAP; state++) {
      MeltPool hall = withPieceAs(state);
      check.due("what it is", hall.ofPiece(0, 0), state);
      check.due("accepted", hall.many(3), state == ACCEPTED ? 1 : 0);
      check.due("scrap", hall.many(4), state == SCRAP ? 1 : 0);
      check.due("growing", hall.ofMachine(0, 3), state == GROWING ? 0 : -1);
      check.due("its solid stays", hall.ofPiece(0, 2), 128);
      check.due("layers done", hall.ofPiece(0, 6), state >= GROWN ? 2 : 0);
    }
  }

  private void relieveStates() {
    for (int state = SOLID; state <= SCRAP; state++) {
      MeltPool hall = withPieceAs(state);
      if (state == GROWN) {
        check.due("relieve one that is grown", hall.relieve(0), 0);
        check.due("what it is", hall.ofPiece(0, 0), RELIEVED);
      } else {
        check.refused("as it is " + state, hall, ISE, () -> hall.relieve(0));
      }
    }
  }

  private void relieveNoPiece() {
    MeltPool hall = withPieceAs(GROWN);
    for (int wrong : NO_PIECES) {
      check.refused("piece " + wrong, hall, IOB, () -> hall.relieve(wrong));
    }
  }

  private void relieveTellsLacks() {
    MeltPool hall = loaded();
    check.due("none", hall.relieve(grown(hall, 200, 5, FULL)), 0);
    check.due("all of 512", lacking().relieve(0), 512);
    check.due("holes are none", hall.relieve(grown(hall, 400, 1, FULL)), 0);
  }

  private void sawGrown() {
    MeltPool hall = withPieceAs(GROWN);
    check.due("saw(0)", hall.saw(0), false);
    check.due("what it is", hall.ofPiece(0, 0), SCRAP);
    check.due("scraps", hall.many(4), 1);
    check.due("strikes", hall.many(6), 0);
  }

  private void sawRelieved() {
    MeltPool hall = withPieceAs(RELIEVED);
    check.due("saw(0)", hall.saw(0), true);
    check.due("what it is", hall.ofPiece(0, 0), SAWN);
    check.due("scraps", hall.many(4), 0);
  }

  private void sawStates() {
    for (int state = SOLID; state <= SCRAP; state++) {
      if (state != GROWN && state != RELIEVED) {
        MeltPool hall = withPieceAs(state);
        check.refused("as it is " + state, hall, ISE, () -> hall.saw(0));
      }
    }
  }

  private void sawNoPiece() {
    MeltPool hall = withPieceAs(RELIEVED);
    for (int wrong : NO_PIECES) {
      check.refused("piece " + wrong, hall, IOB, () -> hall.saw(wrong));
    }
  }

  // ---- pressing

  private void pressRounds() {
    for (int lacks = 1; lacks <= 9; lacks++) {
      MeltPool hall = loaded();
      int piece = grown(hall, 50, 20, (1L << lacks) - 1);
      hall.relieve(piece);
      check.due("press " + lacks, hall.press(piece), lacks / 4);
      check.due("lacks", hall.ofPiece(piece, 7), lacks / 4);
      check.due("what it is", hall.ofPiece(piece, 0), RELIEVED);
    }
    MeltPool sound = withPieceAs(SAWN);
    check.due("press none", sound.press(0), 0);
    check.due("what it is", sound.ofPiece(0, 0), SAWN);
    MeltPool all = lacking();
    all.relieve(0);
    int[] want = {128, 32, 8, 2, 0, 0};
    for (int i = 0; i < 6; i++) {
      check.due("press once more", all.press(0), want[i]);
    }
  }

  private void pressLeavesHoles() {
    MeltPool hall = loaded();
    int piece = grown(hall, 400, 1, FULL);
    hall.relieve(piece);
    check.due("press()", hall.press(piece), 0);
    check.due("holes", hall.ofPiece(piece, 8), 64);
  }

  private void pressStates() {
    for (int state = SOLID; state <= SCRAP; state++) {
      MeltPool hall = withPieceAs(state);
      if (state == RELIEVED || state == SAWN) {
        check.due("as it is " + state, hall.press(0), 0);
      } else {
        check.refused("as it is " + state, hall, ISE, () -> hall.press(0));
      }
    }
  }

  private void pressNoPiece() {
    MeltPool hall = withPieceAs(RELIEVED);
    for (int wrong : NO_PIECES) {
      check.refused("piece " + wrong, hall, IOB, () -> hall.press(wrong));
    }
  }

  // ---- density

  private void densityEnds() {
    check.due("of a solid", withPieceAs(SOLID).measure(0, 0), 1.0);
    check.due("of a sound one", withPieceAs(SAWN).measure(0, 0), 1.0);
    check.due("all are lacks", lacking().measure(0, 0), 0.0);
    MeltPool holes = loaded();
    check.due("all are holes", holes.measure(grown(holes, 400, 1, FULL), 0), 0.0);
    check.due("without cells", holes.measure(holes.piece(), 0), 0.0);
  }

  private void densityOfEach() {
    // 200 / 5: LAYER 0 has a DEPTH of 5.0, what hangs has 7.5. (LACKS and HOLES never come together.)
    MeltPool hall = loaded();
    int piece = grown(hall, 200, 5, 0x3FL, at(7, 7, 6, 7));
    check.due("2 holes of 8", hall.measure(piece, 0), 0.75);
    // 110 / 10: LAYER 0 has 1.375, what hangs has 2.0625.
    int lacks = grown(hall, 110, 10, 0x3FL, at(7, 7, 6, 7));
    check.due("6 lacks of 8", hall.measure(lacks, 0), 0.25);
    int growing = told(hall, 0x3FL, 0x3L);
    hall.start(0, growing, 50, 20);
    hall.grow(0, 1);
    check.due("of all cells of the solid", hall.measure(growing, 0), 0.25);
    hall.clean(0);
    check.due("of scrap", hall.measure(growing, 0), 0.25);
  }

  private void densityOfPressed() {
    MeltPool hall = lacking();
    hall.relieve(0);
    hall.press(0);
    check.due("128 of 512", hall.measure(0, 0), 0.75);
    hall.press(0);
    check.due("32 of 512", hall.measure(0, 0), 0.9375);
    hall.saw(0);
    check.due("which proves nothing", hall.prove(0), false);
    hall.press(0);
    check.due("8 of 512", hall.measure(0, 0), 1.0 - 8.0 / 512);
    check.due("which does", hall.prove(0), true);
  }

  // ---- proofs

  /** Sound but for one HOLE, of so many cells in all. */
  private static int oneHoleOf(MeltPool hall, int cells) {
    return sawn(hall, 200, 5, (1L << cells - 1) - 1, Long.MIN_VALUE);
  }

  private void proveFromDensity() {
    for (int cells = 18; cells <= 22; cells++) {
      MeltPool hall = loaded();
      int piece = oneHoleOf(hall, cells);
      check.due("1 hole", hall.ofPiece(piece, 8), 1);
      check.due("of " + cells, hall.prove(piece), cells >= 20);
      check.due("proofs", hall.ofMachine(0, 4), cells >= 20 ? 1 : 0);
      check.due("it is sawn still", hall.ofPiece(piece, 0), SAWN);
    }
  }

  private void proveAgain() {
    MeltPool hall = loaded();
    for (int i = 0; i < 4; i++) {
      int piece = sawn(hall, 200, 5, FULL);
      check.due("prove()", hall.prove(piece), true);
      check.due("prove() again", hall.prove(piece), true);
      check.due("proofs", hall.ofMachine(0, 4), 1);
    }
    check.due("of both", hall.many(2), 1);
  }

  /** Piece 0 proves its window; piece 1 proves another one, and only then it can be accepted. */
  private void twoWindows(MeltPool hall, int machine) {
    check.due("proved", hall.prove(0), true);
    check.due("the other is not", hall.accept(1), 1);
    check.due("proved too", hall.prove(1), true);
    check.due("two proofs", hall.many(2), 2);
    check.due("of that machine", hall.ofMachine(machine, 4), machine == 0 ? 2 : 1);
    check.due("accept(0)", hall.accept(0), 0);
    check.due("accept(1)", hall.accept(1), 0);
  }

  private void windowsOfMachines() {
    MeltPool hall = loaded();
    hall.powder(1, 500);
    hall.load(1, 1);
    sawn(hall, 200, 5, FULL);
    hall.start(1, told(hall, FULL), 200, 5);
    hall.grow(1, 8);
    hall.relieve(1);
    hall.saw(1);
    twoWindows(hall, 1);
  }

  private void windowsOfAlloys() {
    int[][] alloys = {{0, 1}, {1, 2}, {2, 0}};
    for (int[] a : alloys) {
      MeltPool hall = new MeltPool();
      hall.powder(a[0], 100);
      hall.powder(a[1], 100);
      hall.load(0, 0);
      sawn(hall, 200, 5, FULL);
      hall.clean(0);
      hall.load(0, 1);
      sawn(hall, 200, 5, FULL);
      twoWindows(hall, 0);
    }
    MeltPool same = new MeltPool();
    same.powder(0, 100);
    same.powder(0, 100);
    same.load(0, 0);
    same.prove(sawn(same, 200, 5, FULL));
    same.unload(0);
    same.load(0, 1);
    check.due("another powder of that alloy", same.accept(sawn(same, 200, 5, FULL)), 0);
  }

  private void windowsOfPowers() {
    MeltPool hall = loaded();
    sawn(hall, 200, 5, FULL);
    sawn(hall, 201, 5, FULL);
    twoWindows(hall, 0);
  }

  private void windowsOfSpeeds() {
    MeltPool hall = loaded();
    sawn(hall, 200, 5, FULL);
    sawn(hall, 200, 6, FULL);
    twoWindows(hall, 0);
    MeltPool ratio = loaded();
    sawn(ratio, 100, 5, FULL);
    sawn(ratio, 200, 10, FULL);
    twoWindows(ratio, 0);
  }

  private void windowsAtTheEnds() {
    int[][] next = {{50, 3, 51, 2}, {399, 20, 400, 10}, {320, 20, 321, 10}, {80, 5, 400, 20}};
    for (int[] n : next) {
      MeltPool hall = loaded();
      sawn(hall, n[0], n[1], FULL);
      sawn(hall, n[2], n[3], FULL);
      twoWindows(hall, 0);
    }
    MeltPool slow = loaded();
    slow.prove(sawn(slow, 399, 20, FULL));
    check.due("SPEED 20, and 1 of the next POWER", slow.accept(sawn(slow, 400, 1, FULL)), 1);
    // The strongest of an ALLOY, and the weakest of the next one.
    MeltPool hall = new MeltPool();
    hall.powder(0, 100);
    hall.powder(1, 100);
    hall.load(0, 0);
    sawn(hall, 400, 20, FULL);
    hall.clean(0);
    hall.load(0, 1);
    sawn(hall, 50, 2, FULL);
    twoWindows(hall, 0);
  }

  private void stopsBarNoProof() {
    MeltPool hall = loaded();
    int piece = told(hall, FULL);
    hall.start(0, piece, 200, 5);
    for (int i = 0; i < 3; i++) {
      hall.stop(0);
    }
    hall.grow(0, 8);
    hall.relieve(piece);
    hall.saw(piece);
    check.due("prove()", hall.prove(piece), true);
    check.due("proofs", hall.ofMachine(0, 4), 1);
  }

  private void proveBehindClean() {
    MeltPool hall = withPieceAs(SAWN);
    hall.prove(0);
    hall.clean(0);
    check.due("proofs", hall.ofMachine(0, 4), 0);
    check.due("accept()", hall.accept(0), 1);
    check.due("prove()", hall.prove(0), true);
    check.due("proofs", hall.ofMachine(0, 4), 1);
    check.due("clean()", hall.clean(0), 1);
    hall.prove(0);
    check.due("accept()", hall.accept(0), 0);
    hall.clean(0);
    check.due("it is accepted still", hall.ofPiece(0, 0), ACCEPTED);
  }

  private void proveStates() {
    for (int state = SOLID; state <= SCRAP; state++) {
      if (state != SAWN) {
        MeltPool hall = withPieceAs(state);
        check.refused("as it is " + state, hall, ISE, () -> hall.prove(0));
      }
    }
  }

  private void proveNoPiece() {
    MeltPool hall = withPieceAs(SAWN);
    for (int wrong : NO_PIECES) {
      check.refused("piece " + wrong, hall, IOB, () -> hall.prove(wrong));
    }
  }

  // ---- accepting

  private void acceptUnproved() {
    MeltPool hall = withPieceAs(SAWN);
    check.due("not proved", hall.accept(0), 1);
    check.due("it is sawn", hall.ofPiece(0, 0), SAWN);
    hall.prove(0);
    check.due("proved", hall.accept(0), 0);
    check.due("it is accepted", hall.ofPiece(0, 0), ACCEPTED);
  }

  private void acceptFromDensity() {
    for (int cells = 18; cells <= 22; cells++) {
      MeltPool hall = loaded();
      hall.prove(sawn(hall, 200, 5, FULL));
      check.due("1 hole of " + cells, hall.accept(oneHoleOf(hall, cells)), cells >= 20 ? 0 : 2);
    }
  }

  private void acceptStopped() {
    int[] want = {0, 0, 3, 3};
    for (int stops = 0; stops < 4; stops++) {
      MeltPool hall = withPieceAs(GROWING);
      for (int i = 0; i < stops; i++) {
        hall.stop(0);
      }
      hall.grow(0, 8);
      hall.relieve(0);
      hall.saw(0);
      hall.prove(0);
      check.due("stopped " + stops + " times", hall.accept(0), want[stops]);
    }
  }

  private void acceptFirstBar() {
    MeltPool hall = loaded();
    int piece = told(hall, 0xFFL, Long.MIN_VALUE);
    hall.start(0, piece, 200, 5);
    hall.stop(0);
    hall.stop(0);
    hall.grow(0, 8);
    hall.relieve(piece);
    hall.saw(piece);
    check.due("all three bar it", hall.accept(piece), 1);
    hall.prove(sawn(hall, 200, 5, FULL));
    check.due("density and stops bar it", hall.accept(piece), 2);
    MeltPool lacks = loaded();
    int pressed = told(lacks, 1L);
    lacks.start(0, pressed, 50, 20);
    lacks.stop(0);
    lacks.stop(0);
    lacks.grow(0, 8);
    lacks.relieve(pressed);
    lacks.saw(pressed);
    check.due("all three bar it", lacks.accept(pressed), 1);
    lacks.press(pressed);
    check.due("not proved, and stops", lacks.accept(pressed), 1);
    lacks.prove(pressed);
    check.due("stops alone", lacks.accept(pressed), 3);
  }

  private void barredStaysSawn() {
    MeltPool hall = loaded();
    int rough = oneHoleOf(hall, 10);
    int twice = told(hall, FULL);
    hall.start(0, twice, 200, 5);
    hall.stop(0);
    hall.stop(0);
    hall.grow(0, 8);
    hall.relieve(twice);
    hall.saw(twice);
    long before = hall.digest();
    check.due("not proved", hall.accept(rough), 1);
    check.due("digest", hall.digest(), before);
    hall.prove(twice);
    before = hall.digest();
    check.due("not dense", hall.accept(rough), 2);
    check.due("stopped twice", hall.accept(twice), 3);
    check.due("digest", hall.digest(), before);
    check.due("accepted", hall.many(3), 0);
  }

  private void acceptStates() {
    for (int state = SOLID; state <= SCRAP; state++) {
      if (state != SAWN) {
        MeltPool hall = withPieceAs(state);
        check.refused("as it is " + state, hall, ISE, () -> hall.accept(0));
      }
    }
  }

  private void acceptNoPiece() {
    MeltPool hall = withPieceAs(SAWN);
    for (int wrong : NO_PIECES) {
      check.refused("piece " + wrong, hall, IOB, () -> hall.accept(wrong));
    }
  }

  /** A hall with a full solid of 512 cells, all of them lacks; it is grown. */
  private static MeltPool lacking() {
    MeltPool hall = loaded();
    grown(hall, 50, 20, FULL, FULL, FULL, FULL, FULL, FULL, FULL, FULL);
    return hall;
  }
}
