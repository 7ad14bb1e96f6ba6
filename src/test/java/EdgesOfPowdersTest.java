/** A test for each sentence with a boundary of "2. Powders and machines" and of promises 5 to 9. */
public final class EdgesOfPowdersTest extends Halls {
  public static void main(String[] args) {
    EdgesOfPowdersTest test = new EdgesOfPowdersTest();
    test.powders();
    test.blending();
    test.loading();
    test.unloading();
    test.cleaning();
    test.check.end();
  }

  private void powders() {
    edge("2. POWDERS: at most 6, numbered from 0; promise 5: throws if there are 6", this::sixPowders);
    edge("promise 5: throws if alloy is not 0 to 2", this::noAlloy);
    edge("promise 5: throws if .. grams not 1 to 2000", this::noGrams);
    edge("2. USES (0 at first), PAST: itself at first", this::powderAtFirst);
    edge("2. DUST: NONE, or an ALLOY; at most one POWDER in it", this::machinesAtFirst);
  }

  private void blending() {
    edge("2. BLEND: GRAMS are added, beyond 2000 too", this::blendAll);
    edge("2. BLEND: the second one has 0 then, and is otherwise as it was", this::secondIsAsItWas);
    edge("2. BLEND: USES of the first one are the greater ones", this::greaterUses);
    edge("2. BLEND: its PAST is both together", this::pastTogether);
    edge("2. BLEND: one that has 0 GRAMS", this::blendOneWithoutGrams);
    edge("promise 6: throws if there is no such POWDER, of both", this::blendNoPowder);
    edge("promise 6: throws if both are the same", this::blendTheSame);
    edge("promise 6: throws if both .. have not the same ALLOY", this::blendOtherAlloys);
    edge("promise 6: throws if one of both is in a MACHINE", this::blendLoadedOnes);
  }

  private void loading() {
    edge("2. LOAD one wholly; promise 7: returns its LOAD then", this::loadWholly);
    edge("2. LOAD: refused, if there is DUST of another ALLOY (-2)", this::otherDust);
    edge("2. LOAD: or else if its USES are above 4 (-3)", this::wornOut);
    edge("2. LOAD: -2 is ahead of -3", this::otherDustAheadOfUses);
    edge("2. LOAD: refusing does nothing", this::refusingDoesNothing);
    edge("promise 7: throws if machine is not 0 or 1", this::loadNoMachine);
    edge("promise 7: throws if .. there is no such POWDER", this::loadNoPowder);
    edge("promise 7: throws if a POWDER is in it", this::loadLoadedMachine);
    edge("promise 7: throws if .. that POWDER is in a MACHINE", this::loadLoadedPowder);
    edge("promise 7: throws if .. that POWDER has no GRAMS", this::loadNoGrams);
    edge("promise 7: it throws ahead of -2 and -3", this::throwsAheadOfRefusing);
  }

  private void unloading() {
    edge("2. UNLOAD: all of LOAD goes back, USES are 1 more, DUST stays", this::unloadAll);
    edge("2. UNLOAD: a LOAD of 0", this::unloadNothing);
    edge("promise 8: throws if machine is not 0 or 1", this::unloadNoMachine);
    edge("promise 8: throws if no POWDER is in it", this::unloadNoPowder);
    edge("promise 8: throws if .. a PIECE is GROWING in it", this::unloadGrowing);
  }

  private void cleaning() {
    edge("2. CLEAN: LOAD * 9 / 10 goes back, rounded down, the rest is gone", this::cleanRounds);
    edge("2. CLEAN: a LOAD of 0", this::cleanNothing);
    edge("2. CLEAN: USES are 1 more (if there was a POWDER in it)", this::cleanWithoutPowder);
    edge("2. CLEAN: DUST is NONE, so that another ALLOY can be LOADED", this::cleanTakesDust);
    edge("2. CLEAN: a PIECE that is GROWING in it is SCRAP", this::cleanScraps);
    edge("2. CLEAN: the other MACHINE is as it was", this::cleanOneMachine);
    edge("4. a MACHINE that is CLEANED loses all its proofs; promise 9: returns how many",
        this::cleanLosesProofs);
    edge("promise 9: throws if machine is not 0 or 1", this::cleanNoMachine);
  }

  // ---- powders and machines

  private void sixPowders() {
    MeltPool hall = new MeltPool();
    for (int i = 0; i < 6; i++) {
      int next = i;
      check.refused("powder " + next + " ahead", hall, IOB, () -> hall.ofPowder(next, 0));
      check.due("powder()", hall.powder(0, 10), i);
      check.due("powders", hall.many(1), i + 1);
    }
    check.refused("a seventh powder", hall, ISE, () -> hall.powder(0, 10));
    check.refused("and another", hall, ISE, () -> hall.powder(2, 2000));
    hall.blend(0, 1);
    check.refused("though one has no grams", hall, ISE, () -> hall.powder(0, 10));
    check.due("powders", hall.many(1), 6);
  }

  private void noAlloy() {
    MeltPool hall = new MeltPool();
    for (int wrong : new int[] {LEAST, -1, 3, 4, MOST}) {
      check.refused("alloy " + wrong, hall, IAE, () -> hall.powder(wrong, 10));
    }
    for (int alloy = 0; alloy < 3; alloy++) {
      check.due("alloy", hall.ofPowder(hall.powder(alloy, 10), 0), alloy);
    }
  }

  private void noGrams() {
    MeltPool hall = new MeltPool();
    for (int wrong : new int[] {LEAST, -1, 0, 2001, MOST}) {
      check.refused("grams " + wrong, hall, IAE, () -> hall.powder(0, wrong));
    }
    check.due("1 gram", hall.ofPowder(hall.powder(0, 1), 1), 1);
    check.due("2000 grams", hall.ofPowder(hall.powder(0, 2000), 1), 2000);
  }

  private void powderAtFirst() {
    MeltPool hall = new MeltPool();
    for (int i = 0; i < 6; i++) {
      hall.powder(i % 3, 1 + i);
      int[] want = {i % 3, 1 + i, 0, 1 << i, -1};
      for (int what = 0; what < 5; what++) {
        check.due("ofPowder(" + i + ", " + what + ")", hall.ofPowder(i, what), want[what]);
      }
    }
  }

  private void machinesAtFirst() {
    MeltPool hall = new MeltPool();
    int[] want = {-1, -1, 0, -1, 0};
    for (int n = 0; n < 10; n++) {
      check.due("ofMachine(" + n / 5 + ", " + n % 5 + ")", hall.ofMachine(n / 5, n % 5), want[n % 5]);
    }
    hall.powder(0, 1);
    hall.load(1, 0);
    check.due("an alloy of 0 is no NONE", hall.ofMachine(1, 0), 0);
    check.due("a powder of 0 is no NONE", hall.ofMachine(1, 1), 0);
    check.due("the other machine", hall.ofMachine(0, 1), -1);
  }

  // ---- blending

  private void blendAll() {
    MeltPool hall = new MeltPool();
    for (int i = 0; i < 6; i++) {
      hall.powder(2, 2000);
    }
    for (int i = 1; i < 6; i++) {
      check.due("blend(0, " + i + ")", hall.blend(0, i), 2000 * (i + 1));
    }
    check.due("grams", hall.ofPowder(0, 1), 12000);
    check.due("of all", hall.many(5), 12000);
    check.due("load(0, 0)", hall.load(0, 0), 12000);
    hall.clean(0);
    check.due("after a clean", hall.ofPowder(0, 1), 10800);
  }

  private void secondIsAsItWas() {
    MeltPool hall = new MeltPool();
    hall.powder(1, 5);
    hall.powder(1, 7);
    hall.powder(1, 9);
    hall.blend(1, 2);
    use(hall, 1, 2);
    check.due("blend(0, 1)", hall.blend(0, 1), 21);
    int[] want = {1, 0, 2, 6, -1};
    for (int what = 0; what < 5; what++) {
      check.due("ofPowder(1, " + what + ")", hall.ofPowder(1, what), want[what]);
    }
  }

  private void greaterUses() {
    int[][] uses = {{0, 0}, {3, 0}, {0, 3}, {2, 3}, {3, 2}, {3, 3}, {5, 4}, {4, 5}};
    for (int[] u : uses) {
      MeltPool hall = new MeltPool();
      hall.powder(1, 50);
      hall.powder(1, 50);
      use(hall, 0, u[0]);
      use(hall, 1, u[1]);
      hall.blend(0, 1);
      check.due("of " + u[0] + " and " + u[1], hall.ofPowder(0, 2), u[0] > u[1] ? u[0] : u[1]);
      check.due("of the second", hall.ofPowder(1, 2), u[1]);
    }
  }

  private void pastTogether() {
    MeltPool hall = new MeltPool();
    for (int i = 0; i < 6; i++) {
      hall.powder(0, 10);
    }
    hall.blend(4, 5);
    hall.blend(3, 4);
    check.due("through another one", hall.ofPowder(3, 3), 56);
    hall.blend(4, 3);
    check.due("what both have", hall.ofPowder(4, 3), 56);
    hall.blend(2, 4);
    hall.blend(1, 2);
    hall.blend(0, 1);
    check.due("all six", hall.ofPowder(0, 3), 63);
    check.due("the last one", hall.ofPowder(5, 3), 32);
  }

  private void blendOneWithoutGrams() {
    MeltPool hall = new MeltPool();
    hall.powder(0, 10);
    hall.powder(0, 20);
    hall.powder(0, 30);
    use(hall, 1, 1);
    hall.blend(0, 1);
    check.due("the second has none", hall.blend(2, 1), 30);
    check.due("its past all the same", hall.ofPowder(2, 3), 6);
    check.due("its uses all the same", hall.ofPowder(2, 2), 1);
    check.due("the first has none", hall.blend(1, 0), 30);
    check.due("grams moved", hall.ofPowder(0, 1), 0);
  }

  private void blendNoPowder() {
    MeltPool hall = new MeltPool();
    check.refused("without powders", hall, IOB, () -> hall.blend(0, 0));
    hall.powder(0, 10);
    hall.powder(0, 10);
    for (int wrong : new int[] {LEAST, -1, 2, 6, MOST}) {
      check.refused("first " + wrong, hall, IOB, () -> hall.blend(wrong, 0));
      check.refused("second " + wrong, hall, IOB, () -> hall.blend(0, wrong));
      check.refused("both " + wrong, hall, IOB, () -> hall.blend(wrong, wrong));
    }
  }

  private void blendTheSame() {
    MeltPool hall = new MeltPool();
    hall.powder(0, 10);
    hall.powder(0, 10);
    check.refused("0 and 0", hall, IAE, () -> hall.blend(0, 0));
    check.refused("1 and 1", hall, IAE, () -> hall.blend(1, 1));
  }

  private void blendOtherAlloys() {
    MeltPool hall = new MeltPool();
    for (int alloy = 0; alloy < 3; alloy++) {
      hall.powder(alloy, 10);
    }
    for (int n = 0; n < 9; n++) {
      int first = n / 3;
      int second = n % 3;
      check.refused(first + " and " + second, hall, IAE, () -> hall.blend(first, second));
    }
  }

  private void blendLoadedOnes() {
    MeltPool hall = new MeltPool();
    for (int i = 0; i < 3; i++) {
      hall.powder(0, 10);
    }
    hall.load(0, 0);
    hall.load(1, 1);
    check.refused("the first one", hall, ISE, () -> hall.blend(0, 2));
    check.refused("the second one", hall, ISE, () -> hall.blend(2, 0));
    check.refused("the second one, in machine 1", hall, ISE, () -> hall.blend(2, 1));
    check.refused("both", hall, ISE, () -> hall.blend(0, 1));
    hall.unload(0);
    check.due("as one is out", hall.blend(2, 0), 20);
    hall.clean(1);
    check.due("as both are out", hall.blend(2, 1), 29);
  }

  // ---- loading

  private void loadWholly() {
    MeltPool hall = new MeltPool();
    hall.powder(2, 1);
    hall.powder(1, 2000);
    check.due("1 gram", hall.load(1, 0), 1);
    check.due("2000 grams", hall.load(0, 1), 2000);
    check.due("the powder has the others", hall.ofPowder(1, 1), 0);
    int[] want = {1, 1, 2000, -1, 0};
    for (int what = 0; what < 5; what++) {
      check.due("ofMachine(0, " + what + ")", hall.ofMachine(0, what), want[what]);
    }
    check.due("its machine", hall.ofPowder(1, 4), 0);
    check.due("the other's machine", hall.ofPowder(0, 4), 1);
    check.due("grams of all", hall.many(5), 2001);
  }

  private void otherDust() {
    for (int n = 0; n < 9; n++) {
      int dust = n / 3;
      int alloy = n % 3;
      MeltPool hall = new MeltPool();
      hall.powder(dust, 10);
      hall.powder(alloy, 20);
      use(hall, 0, 1);
      check.due("dust " + dust + ", alloy " + alloy, hall.load(0, 1), dust == alloy ? 20 : -2);
      check.due("dust", hall.ofMachine(0, 0), dust);
      if (dust != alloy) {
        check.due("the clean machine takes it", hall.load(1, 1), 20);
      }
    }
  }

  private void wornOut() {
    MeltPool hall = new MeltPool();
    hall.powder(0, 100);
    for (int uses = 0; uses < 5; uses++) {
      check.due("uses", hall.ofPowder(0, 2), uses);
      check.due("load with " + uses + " uses", hall.load(0, 0), 100);
      hall.unload(0);
    }
    check.due("uses", hall.ofPowder(0, 2), 5);
    check.due("load with 5 uses", hall.load(0, 0), -3);
    check.due("without dust too", hall.load(1, 0), -3);
    hall.powder(0, 1);
    hall.blend(1, 0);
    check.due("blended into a new one", hall.load(0, 1), -3);
  }

  private void otherDustAheadOfUses() {
    MeltPool hall = new MeltPool();
    hall.powder(0, 100);
    hall.powder(1, 100);
    use(hall, 0, 5);
    hall.load(1, 1);
    hall.unload(1);
    check.due("both bar it", hall.load(1, 0), -2);
    hall.clean(1);
    check.due("uses alone", hall.load(1, 0), -3);
  }

  private void refusingDoesNothing() {
    MeltPool hall = new MeltPool();
    hall.powder(0, 100);
    hall.powder(1, 50);
    use(hall, 0, 5);
    long before = hall.digest();
    check.due("other dust", hall.load(0, 1), -2);
    check.due("digest", hall.digest(), before);
    check.due("5 uses", hall.load(0, 0), -3);
    check.due("digest", hall.digest(), before);
  }

  private void loadNoMachine() {
    MeltPool hall = new MeltPool();
    hall.powder(0, 100);
    for (int wrong : new int[] {LEAST, -1, 2, MOST}) {
      check.refused("machine " + wrong, hall, IOB, () -> hall.load(wrong, 0));
    }
  }

  private void loadNoPowder() {
    MeltPool hall = new MeltPool();
    check.refused("without powders", hall, IOB, () -> hall.load(0, 0));
    hall.powder(0, 100);
    for (int wrong : new int[] {LEAST, -1, 1, 6, MOST}) {
      check.refused("powder " + wrong, hall, IOB, () -> hall.load(0, wrong));
    }
  }

  private void loadLoadedMachine() {
    MeltPool hall = loaded(64);
    hall.powder(1, 100);
    check.refused("a powder is in it", hall, ISE, () -> hall.load(0, 1));
    grown(hall, 200, 5, FULL);
    check.due("nothing is left of it", hall.ofMachine(0, 2), 0);
    check.refused("it is in there still", hall, ISE, () -> hall.load(0, 1));
    hall.unload(0);
    check.due("as it is out", hall.load(0, 1), 100);
  }

  private void loadLoadedPowder() {
    MeltPool hall = loaded();
    check.refused("into the same machine", hall, ISE, () -> hall.load(0, 0));
    check.refused("into the other machine", hall, ISE, () -> hall.load(1, 0));
    hall.unload(0);
    check.due("as it is out", hall.load(1, 0), 2000);
  }

  private void loadNoGrams() {
    MeltPool hall = new MeltPool();
    hall.powder(0, 10);
    hall.powder(0, 10);
    hall.powder(0, 1);
    hall.blend(0, 1);
    check.refused("one that was blended", hall, ISE, () -> hall.load(0, 1));
    hall.load(0, 2);
    hall.clean(0);
    check.due("1 * 9 / 10", hall.ofPowder(2, 1), 0);
    check.refused("one that was cleaned away", hall, ISE, () -> hall.load(0, 2));
    MeltPool used = loaded(64);
    grown(used, 200, 5, FULL);
    used.unload(0);
    check.refused("one that was grown away", used, ISE, () -> used.load(0, 0));
  }

  private void throwsAheadOfRefusing() {
    MeltPool hall = new MeltPool();
    hall.powder(0, 10);
    hall.powder(1, 10);
    hall.powder(1, 10);
    use(hall, 1, 5);
    hall.clean(0);
    hall.blend(2, 1);
    hall.load(0, 0);
    check.refused("a powder is in it, though uses are 5", hall, ISE, () -> hall.load(0, 2));
    hall.unload(0);
    check.refused("no grams, other dust, 5 uses", hall, ISE, () -> hall.load(0, 1));
    check.refused("no grams, 5 uses", hall, ISE, () -> hall.load(1, 1));
    check.due("with grams", hall.load(0, 2), -2);
  }

  // ---- unloading

  private void unloadAll() {
    MeltPool hall = loaded(100);
    grown(hall, 200, 5, 0xFFL);
    check.due("unload(0)", hall.unload(0), 92);
    int[] powder = {1, 92, 1, 1, -1};
    int[] machine = {1, -1, 0, -1, 0};
    for (int what = 0; what < 5; what++) {
      check.due("ofPowder(0, " + what + ")", hall.ofPowder(0, what), powder[what]);
      check.due("ofMachine(0, " + what + ")", hall.ofMachine(0, what), machine[what]);
    }
    check.due("grams of all", hall.many(5), 92);
  }

  private void unloadNothing() {
    MeltPool hall = loaded(64);
    grown(hall, 200, 5, FULL);
    check.due("load", hall.ofMachine(0, 2), 0);
    check.due("unload(0)", hall.unload(0), 0);
    check.due("uses", hall.ofPowder(0, 2), 1);
    check.due("powder", hall.ofMachine(0, 1), -1);
    check.due("dust", hall.ofMachine(0, 0), 1);
  }

  private void unloadNoMachine() {
    MeltPool hall = loaded();
    for (int wrong : new int[] {LEAST, -1, 2, MOST}) {
      check.refused("machine " + wrong, hall, IOB, () -> hall.unload(wrong));
    }
  }

  private void unloadNoPowder() {
    MeltPool hall = loaded();
    check.refused("none ever", hall, ISE, () -> hall.unload(1));
    hall.unload(0);
    check.refused("none any more", hall, ISE, () -> hall.unload(0));
    hall.load(0, 0);
    hall.clean(0);
    check.refused("none behind a clean", hall, ISE, () -> hall.unload(0));
  }

  private void unloadGrowing() {
    MeltPool hall = loaded(70);
    hall.powder(1, 30);
    hall.load(1, 1);
    hall.start(0, told(hall, FULL, FULL), 200, 5);
    check.refused("one is growing", hall, ISE, () -> hall.unload(0));
    hall.stop(0);
    check.refused("it was stopped", hall, ISE, () -> hall.unload(0));
    hall.grow(0, 8);
    check.due("one layer done", hall.ofPiece(0, 6), 1);
    check.refused("it is short", hall, ISE, () -> hall.unload(0));
    check.due("the other machine", hall.unload(1), 30);
    MeltPool struck = loaded(2000);
    struck.start(0, told(struck, 1L, ~3L & ~at(0, 1)), 200, 5);
    struck.grow(0, 8);
    check.due("scrap by a strike", struck.ofPiece(0, 0), SCRAP);
    check.due("none grows then", struck.unload(0), 2000 - 1 - 61 - 61);
  }

  // ---- cleaning

  private void cleanRounds() {
    int[][] grams = {{1, 0}, {2, 1}, {9, 8}, {10, 9}, {11, 9}, {19, 17}, {20, 18}, {1999, 1799},
        {2000, 1800}};
    for (int[] g : grams) {
      MeltPool hall = loaded(g[0]);
      hall.clean(0);
      check.due("of " + g[0], hall.ofPowder(0, 1), g[1]);
      check.due("grams of all", hall.many(5), g[1]);
      check.due("load", hall.ofMachine(0, 2), 0);
      check.due("uses", hall.ofPowder(0, 2), 1);
      check.due("machine", hall.ofPowder(0, 4), -1);
    }
  }

  private void cleanNothing() {
    MeltPool hall = loaded(64);
    grown(hall, 200, 5, FULL);
    hall.clean(0);
    check.due("grams", hall.ofPowder(0, 1), 0);
    check.due("uses", hall.ofPowder(0, 2), 1);
    check.due("its machine", hall.ofPowder(0, 4), -1);
    check.due("powder in it", hall.ofMachine(0, 1), -1);
  }

  private void cleanWithoutPowder() {
    MeltPool hall = loaded(100);
    hall.unload(0);
    check.due("clean(0)", hall.clean(0), 0);
    int[] powder = {1, 100, 1, 1, -1};
    int[] machine = {-1, -1, 0, -1, 0};
    for (int what = 0; what < 5; what++) {
      check.due("ofPowder(0, " + what + ")", hall.ofPowder(0, what), powder[what]);
      check.due("ofMachine(0, " + what + ")", hall.ofMachine(0, what), machine[what]);
    }
    check.due("clean again", hall.clean(0), 0);
    check.due("uses", hall.ofPowder(0, 2), 1);
    check.due("in a new hall", new MeltPool().clean(1), 0);
  }

  private void cleanTakesDust() {
    MeltPool hall = loaded(100);
    hall.powder(2, 5);
    hall.clean(0);
    check.due("dust", hall.ofMachine(0, 0), -1);
    check.due("another alloy", hall.load(0, 1), 5);
    check.due("dust then", hall.ofMachine(0, 0), 2);
    hall.unload(0);
    hall.clean(0);
    check.due("dust without a powder", hall.ofMachine(0, 0), -1);
    check.due("the first one", hall.load(0, 0), 90);
  }

  private void cleanScraps() {
    MeltPool hall = loaded(200);
    told(hall, FULL, FULL);
    hall.start(0, 0, 200, 5);
    hall.grow(0, 1);
    hall.clean(0);
    check.due("scrap", hall.ofPiece(0, 0), SCRAP);
    check.due("scraps", hall.many(4), 1);
    check.due("strikes", hall.many(6), 0);
    check.due("none is growing", hall.ofMachine(0, 3), -1);
    check.due("warm", hall.warm(0, 0, 0), 0.0);
    check.due("layers that were done", hall.ofPiece(0, 6), 1);
    check.due("its machine is kept", hall.ofPiece(0, 10), 0);
    check.due("grams", hall.ofPowder(0, 1), 136 * 9 / 10);
    int[] others = {SOLID, GROWN, RELIEVED, SAWN, ACCEPTED};
    for (int state : others) {
      MeltPool other = withPieceAs(state);
      other.clean(0);
      check.due("not one that is " + state, other.ofPiece(0, 0), state);
    }
  }

  private void cleanOneMachine() {
    MeltPool hall = loaded(200);
    hall.powder(2, 300);
    hall.load(1, 1);
    hall.start(1, told(hall, FULL, FULL), 200, 5);
    hall.grow(1, 1);
    hall.clean(0);
    int[] want = {2, 1, 236, 0, 0};
    for (int what = 0; what < 5; what++) {
      check.due("ofMachine(1, " + what + ")", hall.ofMachine(1, what), want[what]);
    }
    check.due("warm", hall.warm(1, 0, 0), 1.0);
    check.due("it grows still", hall.grow(1, 8), 1);
  }

  private void cleanLosesProofs() {
    MeltPool hall = loaded();
    hall.powder(2, 500);
    hall.load(1, 1);
    check.due("none yet", hall.clean(1), 0);
    hall.load(1, 1);
    hall.prove(sawn(hall, 200, 5, FULL));
    hall.prove(sawn(hall, 200, 6, FULL));
    hall.prove(sawn(hall, 200, 7, FULL));
    int there = told(hall, FULL);
    hall.start(1, there, 200, 5);
    hall.grow(1, 8);
    hall.relieve(there);
    hall.saw(there);
    hall.prove(there);
    check.due("proofs of both", hall.many(2), 4);
    check.due("clean(0)", hall.clean(0), 3);
    check.due("proofs of the other", hall.ofMachine(1, 4), 1);
    check.due("proofs of both", hall.many(2), 1);
    check.due("clean(0) again", hall.clean(0), 0);
    check.due("the window is not proved", hall.accept(0), 1);
    check.due("it proves it anew", hall.prove(0), true);
    check.due("and is accepted", hall.accept(0), 0);
    check.due("clean(1)", hall.clean(1), 1);
    MeltPool full = loaded();
    for (int speed = 5; speed < 9; speed++) {
      full.prove(sawn(full, 200, speed, FULL));
    }
    check.due("four proofs", full.clean(0), 4);
  }

  private void cleanNoMachine() {
    MeltPool hall = loaded();
    for (int wrong : new int[] {LEAST, -1, 2, MOST}) {
      check.refused("machine " + wrong, hall, IOB, () -> hall.clean(wrong));
    }
  }

  private static void use(MeltPool hall, int powder, int times) {
    for (int i = 0; i < times; i++) {
      hall.load(0, powder);
      hall.unload(0);
    }
  }
}
