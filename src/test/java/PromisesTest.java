/** One method for each promise of the document: ordinary inputs, the named edges, wrong inputs. */
public final class PromisesTest extends Halls {
  private static final int[] WRONG = {Integer.MIN_VALUE, -1, 4, Integer.MAX_VALUE};
  private static final int[] WRONG_POWERS = {49, 401, -200, Integer.MIN_VALUE};
  private static final int[] WRONG_SPEEDS = {0, 21, -5, Integer.MAX_VALUE};

  public static void main(String[] args) {
    PromisesTest test = new PromisesTest();
    test.newObject();
    test.piece();
    test.layer();
    test.lay();
    test.powder();
    test.blend();
    test.load();
    test.unload();
    test.clean();
    test.start();
    test.grow();
    test.growEdges();
    test.stop();
    test.relieve();
    test.saw();
    test.press();
    test.prove();
    test.accept();
    test.ofPiece();
    test.ofLayer();
    test.islands();
    test.ofPowder();
    test.ofMachine();
    test.warm();
    test.measure();
    test.recall();
    test.many();
    test.wouldHold();
    test.bestWay();
    test.bestSpeed();
    test.digest();
    test.check.end();
  }

  // ---- promises 1 to 4: solids

  private void newObject() {
    check.title("promise 1");
    MeltPool hall = new MeltPool();
    for (int what = 0; what < 8; what++) {
      check.due("many(" + what + ")", hall.many(what), 0);
    }
    check.refused("ofPiece(0, 0)", hall, IOB, () -> hall.ofPiece(0, 0));
    check.refused("ofPowder(0, 0)", hall, IOB, () -> hall.ofPowder(0, 0));
    for (int machine = 0; machine < 2; machine++) {
      int[] want = {-1, -1, 0, -1, 0};
      for (int what = 0; what < 5; what++) {
        check.due("ofMachine(_, " + what + ")", hall.ofMachine(machine, what), want[what]);
      }
    }
  }

  private void piece() {
    check.title("promise 2");
    MeltPool hall = new MeltPool();
    for (int i = 0; i < 4; i++) {
      check.due("piece()", hall.piece(), i);
      check.due("what it is", hall.ofPiece(i, 0), 0);
      check.due("cells", hall.ofPiece(i, 2), 0);
    }
    check.refused("piece()", hall, ISE, hall::piece);
    check.due("pieces", hall.many(0), 4);
  }

  private void layer() {
    check.title("promise 3");
    MeltPool hall = loaded();
    int piece = told(hall);
    check.due("layer(0, 0, -1)", hall.layer(piece, 0, FULL), 64);
    check.due("layer(0, 7, min)", hall.layer(piece, 7, Long.MIN_VALUE), 1);
    check.due("height", hall.ofPiece(piece, 1), 8);
    check.due("layer(0, 7, 0)", hall.layer(piece, 7, 0L), 0);
    check.due("height then", hall.ofPiece(piece, 1), 1);
    check.due("layer(0, 0, 5)", hall.layer(piece, 0, 5L), 2);
    check.due("cells from now on", hall.ofLayer(piece, 0, 0), 5L);
    check.refused("layer(1, 0, 1)", hall, IOB, () -> hall.layer(1, 0, 1L));
    for (int wrong : WRONG) {
      check.refused("layer(" + wrong + ")", hall, IOB, () -> hall.layer(wrong, 0, 1L));
    }
    check.refused("layer(0, -1, 1)", hall, IOB, () -> hall.layer(0, -1, 1L));
    check.refused("layer(0, 8, 1)", hall, IOB, () -> hall.layer(0, 8, 1L));
    hall.start(0, piece, 200, 5);
    check.refused("layer of a growing one", hall, ISE, () -> hall.layer(0, 0, 1L));
    check.refused("layer 8 of a growing one", hall, IOB, () -> hall.layer(0, 8, 1L));
    hall.clean(0);
    check.refused("layer of scrap", hall, ISE, () -> hall.layer(0, 0, 1L));
  }

  private void lay() {
    check.title("promise 4");
    // Of the cells (1, 2, 3) and (0, 0, 5), lowered: the height, where each one comes to.
    int[][] want = {
      {3, 1, 2, 0, 0, 0, 2}, {3, 1, 2, 2, 0, 0, 0}, {2, 3, 2, 1, 5, 0, 0},
      {2, 3, 2, 0, 5, 0, 1}, {3, 1, 3, 2, 0, 5, 0}, {3, 1, 3, 0, 0, 5, 2}
    };
    for (int way = 0; way < 6; way++) {
      MeltPool hall = new MeltPool();
      told(hall, 0L, 0L, 0L, at(1, 2), 0L, at(0, 0));
      int[] due = want[way];
      check.due("lay(0, " + way + ")", hall.lay(0, way), due[0]);
      for (int k = 0; k < 8; k++) {
        long set = (due[3] == k ? at(due[1], due[2]) : 0L) | (due[6] == k ? at(due[4], due[5]) : 0L);
        check.due("way " + way + " layer " + k, hall.ofLayer(0, k, 0), set);
      }
    }
    MeltPool hall = loaded();
    told(hall);
    for (int way = 0; way < 6; way++) {
      check.due("lay an empty one", hall.lay(0, way), 0);
    }
    hall.layer(0, 0, 0xFFL);
    check.due("lay(0, 3)", hall.lay(0, 3), 8);
    check.due("cells below 0", hall.ofLayer(0, 7, 0), 1L);
    check.due("lay(0, 3)", hall.lay(0, 3), 1);
    hall.layer(0, 1, 0xFFL);
    check.due("none hang", hall.ofPiece(0, 3), 0);
    check.due("lay(0, 5)", hall.lay(0, 5), 1);
    hall.layer(0, 3, at(4, 4));
    check.due("one hangs", hall.ofPiece(0, 3), 1);
    check.due("lay(0, 1)", hall.lay(0, 1), 4);
    check.due("16 hang then", hall.ofPiece(0, 3), 16);
    check.due("support then", hall.ofPiece(0, 5), 48);
    check.due("those that hang", hall.ofLayer(0, 3, 1), 0xFFFFL);
    check.refused("lay(1, 0)", hall, IOB, () -> hall.lay(1, 0));
    check.refused("lay(-1, 6)", hall, IOB, () -> hall.lay(-1, 6));
    check.refused("lay(0, 6)", hall, IAE, () -> hall.lay(0, 6));
    check.refused("lay(0, -1)", hall, IAE, () -> hall.lay(0, -1));
    hall.start(0, 0, 200, 5);
    check.refused("lay a growing one", hall, ISE, () -> hall.lay(0, 0));
    check.refused("lay a growing one, way 6", hall, IAE, () -> hall.lay(0, 6));
  }

  // ---- promises 5 to 9: powders and machines

  private void powder() {
    check.title("promise 5");
    MeltPool hall = new MeltPool();
    int[][] wrong = {{-1, 1}, {3, 1}, {0, 0}, {0, 2001}, {0, -1}, {2, Integer.MIN_VALUE}};
    for (int[] w : wrong) {
      check.refused("powder(" + w[0] + ", " + w[1] + ")", hall, IAE, () -> hall.powder(w[0], w[1]));
    }
    for (int i = 0; i < 6; i++) {
      check.due("powder()", hall.powder(i % 3, i % 2 == 0 ? 1 : 2000), i);
      check.due("alloy", hall.ofPowder(i, 0), i % 3);
      check.due("grams", hall.ofPowder(i, 1), i % 2 == 0 ? 1 : 2000);
      check.due("uses", hall.ofPowder(i, 2), 0);
      check.due("past", hall.ofPowder(i, 3), 1 << i);
      check.due("machine", hall.ofPowder(i, 4), -1);
    }
    check.refused("a seventh powder", hall, ISE, () -> hall.powder(0, 1));
    check.refused("a seventh powder without grams", hall, IAE, () -> hall.powder(0, 0));
  }

  private void blend() {
    check.title("promise 6");
    MeltPool hall = new MeltPool();
    hall.powder(0, 100);
    hall.powder(0, 30);
    hall.powder(0, 7);
    hall.powder(1, 5);
    hall.load(0, 1);
    check.refused("blend into a loaded one", hall, ISE, () -> hall.blend(1, 0));
    check.refused("blend a loaded one", hall, ISE, () -> hall.blend(0, 1));
    check.refused("blend a loaded one with itself", hall, IAE, () -> hall.blend(1, 1));
    check.refused("blend a loaded one, other alloy", hall, IAE, () -> hall.blend(1, 3));
    hall.unload(0);
    check.due("blend(0, 1)", hall.blend(0, 1), 130);
    check.due("uses are the greater ones", hall.ofPowder(0, 2), 1);
    check.due("past", hall.ofPowder(0, 3), 3);
    check.due("grams of the second", hall.ofPowder(1, 1), 0);
    check.due("uses of the second", hall.ofPowder(1, 2), 1);
    check.due("past of the second", hall.ofPowder(1, 3), 2);
    check.due("blend(2, 0)", hall.blend(2, 0), 137);
    check.due("past goes along", hall.ofPowder(2, 3), 7);
    check.due("blend one without grams", hall.blend(2, 1), 137);
    check.due("uses stay the greater ones", hall.ofPowder(2, 2), 1);
    check.due("blend back", hall.blend(1, 2), 137);
    check.due("uses of the first, greater", hall.ofPowder(1, 2), 1);
    check.refused("blend(0, 3)", hall, IAE, () -> hall.blend(0, 3));
    check.refused("blend(0, 0)", hall, IAE, () -> hall.blend(0, 0));
    check.refused("blend(4, 4)", hall, IOB, () -> hall.blend(4, 4));
    check.refused("blend(0, 4)", hall, IOB, () -> hall.blend(0, 4));
    check.refused("blend(-1, 0)", hall, IOB, () -> hall.blend(-1, 0));
  }

  private void load() {
    check.title("promise 7");
    MeltPool hall = new MeltPool();
    hall.powder(0, 100);
    hall.powder(1, 50);
    hall.powder(0, 9);
    check.due("load(0, 0)", hall.load(0, 0), 100);
    check.due("grams without load", hall.ofPowder(0, 1), 0);
    check.due("its machine", hall.ofPowder(0, 4), 0);
    check.due("dust", hall.ofMachine(0, 0), 0);
    check.due("powder in it", hall.ofMachine(0, 1), 0);
    check.refused("load a loaded machine", hall, ISE, () -> hall.load(0, 1));
    check.refused("load a loaded powder", hall, ISE, () -> hall.load(1, 0));
    hall.unload(0);
    long before = hall.digest();
    check.due("other dust", hall.load(0, 1), -2);
    check.due("refusing changes nothing", hall.digest(), before);
    for (int i = 1; i < 5; i++) {
      check.due("load", hall.load(0, 0), 100);
      hall.unload(0);
    }
    before = hall.digest();
    check.due("5 uses", hall.load(0, 0), -3);
    check.due("refusing changes nothing", hall.digest(), before);
    hall.load(1, 1);
    hall.unload(1);
    check.due("5 uses and other dust", hall.load(1, 0), -2);
    hall.blend(2, 0);
    check.refused("load one without grams", hall, ISE, () -> hall.load(0, 0));
    check.refused("load(2, 0)", hall, IOB, () -> hall.load(2, 0));
    check.refused("load(-1, 0)", hall, IOB, () -> hall.load(-1, 0));
    check.refused("load(0, 3)", hall, IOB, () -> hall.load(0, 3));
    check.refused("load(0, -1)", hall, IOB, () -> hall.load(0, -1));
  }

  private void unload() {
    check.title("promise 8");
    MeltPool hall = loaded();
    int piece = told(hall, FULL, FULL);
    check.refused("unload(1)", hall, ISE, () -> hall.unload(1));
    check.refused("unload(2)", hall, IOB, () -> hall.unload(2));
    check.refused("unload(-1)", hall, IOB, () -> hall.unload(-1));
    hall.start(0, piece, 200, 5);
    hall.grow(0, 1);
    check.refused("unload, one growing", hall, ISE, () -> hall.unload(0));
    hall.grow(0, 1);
    check.due("unload(0)", hall.unload(0), 2000 - 128);
    check.due("grams", hall.ofPowder(0, 1), 2000 - 128);
    check.due("uses", hall.ofPowder(0, 2), 1);
    check.due("machine", hall.ofPowder(0, 4), -1);
    check.due("dust stays", hall.ofMachine(0, 0), 1);
    check.due("no powder in it", hall.ofMachine(0, 1), -1);
    check.due("load", hall.ofMachine(0, 2), 0);
    check.refused("unload twice", hall, ISE, () -> hall.unload(0));
    hall.powder(1, 64);
    hall.load(0, 1);
    grown(hall, 200, 5, FULL);
    check.due("the machine is used up", hall.ofMachine(0, 2), 0);
    check.due("unload nothing", hall.unload(0), 0);
    check.due("uses of nothing", hall.ofPowder(1, 2), 1);
  }

  private void clean() {
    check.title("promise 9");
    MeltPool hall = new MeltPool();
    check.due("clean an empty machine", hall.clean(1), 0);
    hall.powder(1, 99);
    hall.powder(2, 500);
    hall.load(0, 0);
    check.due("clean(0)", hall.clean(0), 0);
    check.due("99 * 9 / 10", hall.ofPowder(0, 1), 89);
    check.due("uses", hall.ofPowder(0, 2), 1);
    check.due("machine", hall.ofPowder(0, 4), -1);
    check.due("the rest is gone", hall.many(5), 589);
    check.due("dust", hall.ofMachine(0, 0), -1);
    check.due("powder", hall.ofMachine(0, 1), -1);
    check.due("load", hall.ofMachine(0, 2), 0);
    check.due("clean, no powder", hall.clean(0), 0);
    check.due("uses stay", hall.ofPowder(0, 2), 1);
    check.due("load another alloy", hall.load(0, 1), 500);
    hall.prove(sawn(hall, 200, 5, FULL));
    hall.prove(sawn(hall, 200, 6, FULL));
    hall.prove(sawn(hall, 200, 6, FULL));
    int growing = told(hall, FULL);
    hall.start(0, growing, 200, 5);
    check.due("clean the other one", hall.clean(1), 0);
    check.due("proofs", hall.ofMachine(0, 4), 2);
    check.due("clean(0) loses proofs", hall.clean(0), 2);
    check.due("proofs then", hall.ofMachine(0, 4), 0);
    check.due("the growing one is scrap", hall.ofPiece(growing, 0), 6);
    check.due("the sawn one stays", hall.ofPiece(0, 0), 4);
    check.due("none is growing", hall.ofMachine(0, 3), -1);
    check.due("no strike", hall.many(6), 0);
    check.due("clean again", hall.clean(0), 0);
    check.refused("clean(2)", hall, IOB, () -> hall.clean(2));
    check.refused("clean(-1)", hall, IOB, () -> hall.clean(-1));
  }

  // ---- promises 10 to 12: growing

  private void start() {
    check.title("promise 10");
    MeltPool hall = loaded();
    int piece = told(hall, 0L, 0L, 1L);
    int empty = told(hall);
    check.refused("start an empty one", hall, ISE, () -> hall.start(0, empty, 200, 5));
    check.refused("start without powder", hall, ISE, () -> hall.start(1, piece, 200, 5));
    check.refused("machine 2", hall, IOB, () -> hall.start(2, piece, 200, 5));
    check.refused("machine -1, power 0", hall, IOB, () -> hall.start(-1, piece, 0, 5));
    check.refused("piece 2", hall, IOB, () -> hall.start(0, 2, 200, 5));
    for (int power : WRONG_POWERS) {
      check.refused("power " + power, hall, IAE, () -> hall.start(0, piece, power, 5));
    }
    for (int speed : WRONG_SPEEDS) {
      check.refused("speed " + speed, hall, IAE, () -> hall.start(0, empty, 200, speed));
    }
    hall.unload(0);
    hall.powder(1, 7);
    hall.blend(0, 1);
    hall.load(0, 0);
    check.due("start()", hall.start(0, piece, 50, 20), 3);
    int[] want = {0, 50, 20, 1, 3};
    for (int i = 0; i < 5; i++) {
      check.due("ofPiece(0, " + (10 + i) + ")", hall.ofPiece(piece, 10 + i), want[i]);
    }
    check.due("what it is", hall.ofPiece(piece, 0), 1);
    check.due("growing", hall.ofMachine(0, 3), piece);
    hall.layer(empty, 0, 1L);
    check.refused("one is growing there", hall, ISE, () -> hall.start(0, empty, 200, 5));
    hall.powder(2, 7);
    hall.load(1, 2);
    check.refused("no solid", hall, ISE, () -> hall.start(1, piece, 200, 5));
    check.due("start(1)", hall.start(1, empty, 400, 1), 1);
    check.due("its machine", hall.ofPiece(empty, 10), 1);
    hall.grow(1, 1);
    hall.unload(1);
    check.due("uses that were kept", hall.ofPiece(empty, 13), 0);
    check.due("past that was kept", hall.ofPiece(empty, 14), 4);
  }

  private void grow() {
    check.title("promise 11");
    MeltPool hall = new MeltPool();
    hall.powder(0, 10);
    hall.load(0, 0);
    int piece = told(hall, at(0, 0), at(0, 0), at(0, 0) | at(4, 4), at(0, 0) | at(4, 4));
    check.refused("grow, none growing", hall, ISE, () -> hall.grow(0, 1));
    check.refused("grow(0, 0)", hall, IAE, () -> hall.grow(0, 0));
    check.refused("grow(0, 9)", hall, IAE, () -> hall.grow(0, 9));
    check.refused("grow(2, 0)", hall, IOB, () -> hall.grow(2, 0));
    check.refused("grow(-1, 1)", hall, IOB, () -> hall.grow(-1, 1));
    hall.start(0, piece, 200, 5);
    check.due("grow(0, 1)", hall.grow(0, 1), 1);
    check.due("load less cells and support", hall.ofMachine(0, 2), 8);
    check.due("grow(0, 2)", hall.grow(0, 2), 2);
    check.due("load", hall.ofMachine(0, 2), 4);
    check.due("layers done", hall.ofPiece(piece, 6), 3);
    check.due("grow beyond the last", hall.grow(0, 8), 1);
    check.due("grown", hall.ofPiece(piece, 0), 2);
    check.due("the machine is free", hall.ofMachine(0, 3), -1);
    check.due("its powder stays", hall.ofMachine(0, 1), 0);
    check.due("load", hall.ofMachine(0, 2), 2);
    int second = told(hall, at(0, 0, 1, 0), at(0, 0));
    hall.start(0, second, 200, 5);
    check.due("just enough, then short", hall.grow(0, 8), 1);
    long before = hall.digest();
    check.due("short", hall.grow(0, 1), 0);
    check.due("short does nothing", hall.digest(), before);
    check.due("it grows still", hall.ofPiece(second, 0), 1);
    check.due("layers ever", hall.many(7), 5);
  }

  private void growEdges() {
    check.title("section 3");
    MeltPool hall = loaded();
    int[][] edges = {{160, 10, 0, 0}, {159, 10, 1, 0}, {240, 5, 0, 0}, {241, 5, 0, 1}};
    for (int[] edge : edges) {
      int piece = grown(hall, edge[0], edge[1], 1L);
      check.due("lacks by power " + edge[0], hall.ofPiece(piece, 7), edge[2]);
      check.due("holes by power " + edge[0], hall.ofPiece(piece, 8), edge[3]);
    }
    hall = loaded();
    int exact = grown(hall, 160, 5, 1L, 0xF0L);
    check.due("hanging: 6.0 is no hole", hall.ofPiece(exact, 8), 0);
    int deep = grown(hall, 165, 5, 1L, 0xF0L);
    check.due("hanging: 1.5 times", hall.ofPiece(deep, 8), 4);
    check.due("16 hang: curl 2.0", hall.measure(grown(hall, 200, 5, 1L, 0xFFFF0000L), 1), 2.0);
    check.due("which is no strike", hall.many(6), 0);
    int last = told(hall, 1L, 0x1FFFF0000L);
    hall.start(0, last, 200, 5);
    check.due("a strike counts as done", hall.grow(0, 8), 2);
    check.due("a strike in the last layer", hall.ofPiece(last, 0), 6);
    check.due("strikes", hall.many(6), 1);
    check.due("the machine is free", hall.ofMachine(0, 3), -1);
    check.due("its powder stays", hall.ofMachine(0, 1), 0);
    hall = loaded();
    int struck = told(hall, 1L, 0xFFFF0000L, 0xFFFF00000000L, 1L);
    hall.start(0, struck, 200, 5);
    check.due("a strike ends growing", hall.grow(0, 8), 3);
    check.due("curl", hall.measure(struck, 1), 2.5);
    check.due("grams are used", hall.ofMachine(0, 2), 2000 - 25 - 25 - 17);
  }

  private void stop() {
    check.title("promise 12");
    MeltPool hall = loaded();
    int piece = told(hall, 3L, 3L);
    check.refused("stop, none growing", hall, ISE, () -> hall.stop(0));
    check.refused("stop(2)", hall, IOB, () -> hall.stop(2));
    check.refused("stop(-1)", hall, IOB, () -> hall.stop(-1));
    hall.start(0, piece, 200, 5);
    hall.grow(0, 1);
    check.due("warm", hall.warm(0, 1, 0), 1.0);
    check.due("stop(0)", hall.stop(0), 1);
    check.due("warm then", hall.warm(0, 1, 0), 0.0);
    check.due("stop(0)", hall.stop(0), 2);
    check.due("it grows still", hall.ofPiece(piece, 0), 1);
    hall.grow(0, 1);
    check.due("stops", hall.ofPiece(piece, 9), 2);
    check.refused("stop a grown one", hall, ISE, () -> hall.stop(0));
  }

  // ---- promises 13 to 17: behind it

  private void relieve() {
    check.title("promise 13");
    MeltPool hall = loaded();
    int piece = grown(hall, 50, 20, 0x7L, 0x3L);
    check.due("relieve(0)", hall.relieve(piece), 5);
    check.due("what it is", hall.ofPiece(piece, 0), 3);
    check.refused("relieve twice", hall, ISE, () -> hall.relieve(piece));
    int solid = told(hall, 1L);
    check.refused("relieve a solid", hall, ISE, () -> hall.relieve(solid));
    check.refused("relieve(2)", hall, IOB, () -> hall.relieve(2));
    check.refused("relieve(-1)", hall, IOB, () -> hall.relieve(-1));
    hall.start(0, solid, 200, 5);
    check.refused("relieve a growing one", hall, ISE, () -> hall.relieve(solid));
  }

  private void saw() {
    check.title("promise 14");
    MeltPool hall = loaded();
    int grown = grown(hall, 200, 5, 1L);
    check.due("saw a grown one", hall.saw(grown), false);
    check.due("scrap", hall.ofPiece(grown, 0), 6);
    check.refused("saw scrap", hall, ISE, () -> hall.saw(grown));
    int relieved = grown(hall, 200, 5, 1L);
    hall.relieve(relieved);
    check.due("saw a relieved one", hall.saw(relieved), true);
    check.due("sawn", hall.ofPiece(relieved, 0), 4);
    check.refused("saw twice", hall, ISE, () -> hall.saw(relieved));
    int solid = told(hall, 1L);
    check.refused("saw a solid", hall, ISE, () -> hall.saw(solid));
    check.refused("saw(3)", hall, IOB, () -> hall.saw(3));
    check.refused("saw(-1)", hall, IOB, () -> hall.saw(-1));
  }

  private void press() {
    check.title("promise 15");
    MeltPool hall = loaded();
    int piece = grown(hall, 50, 20, 0x1FFL, 0x1FFL);
    check.refused("press a grown one", hall, ISE, () -> hall.press(piece));
    hall.relieve(piece);
    check.due("press 18 lacks", hall.press(piece), 4);
    check.due("lacks", hall.ofPiece(piece, 7), 4);
    check.due("it is relieved still", hall.ofPiece(piece, 0), 3);
    hall.saw(piece);
    check.due("press a sawn one", hall.press(piece), 1);
    check.due("press again", hall.press(piece), 0);
    check.due("it is sawn still", hall.ofPiece(piece, 0), 4);
    int holes = sawn(hall, 400, 1, 0xFL);
    check.due("press holes", hall.press(holes), 0);
    check.due("holes stay", hall.ofPiece(holes, 8), 4);
    int solid = told(hall, 1L);
    check.refused("press a solid", hall, ISE, () -> hall.press(solid));
    check.refused("press(3)", hall, IOB, () -> hall.press(3));
    check.refused("press(-1)", hall, IOB, () -> hall.press(-1));
  }

  private void prove() {
    check.title("promise 16");
    MeltPool hall = loaded();
    int piece = sawn(hall, 200, 5, FULL);
    check.due("prove(0)", hall.prove(piece), true);
    check.due("prove again", hall.prove(piece), true);
    check.due("each once", hall.ofMachine(0, 4), 1);
    int edge = sawn(hall, 200, 5, (1L << 19) - 1, Long.MIN_VALUE);
    check.due("1 of 20 is a hole", hall.measure(edge, 0), 0.95);
    check.due("prove by 0.95", hall.prove(edge), true);
    int below = sawn(hall, 210, 5, (1L << 18) - 1, Long.MIN_VALUE);
    check.due("prove by less", hall.prove(below), false);
    check.due("proofs", hall.ofMachine(0, 4), 1);
    int solid = told(hall, 1L);
    check.refused("prove by a solid", hall, ISE, () -> hall.prove(solid));
    hall.start(0, solid, 200, 6);
    hall.grow(0, 1);
    check.refused("prove by a grown one", hall, ISE, () -> hall.prove(solid));
    hall.relieve(solid);
    check.refused("prove by a relieved one", hall, ISE, () -> hall.prove(solid));
    hall.saw(solid);
    check.due("prove another window", hall.prove(solid), true);
    check.due("proofs", hall.ofMachine(0, 4), 2);
    check.refused("prove(4)", hall, IOB, () -> hall.prove(4));
    check.refused("prove(-1)", hall, IOB, () -> hall.prove(-1));
    windows();
  }

  /** Windows that differ in one thing alone are not the same. */
  private void windows() {
    MeltPool hall = loaded();
    hall.prove(sawn(hall, 200, 5, FULL));
    check.due("other speed", hall.accept(sawn(hall, 200, 6, FULL)), 1);
    check.due("other power", hall.accept(sawn(hall, 201, 5, FULL)), 1);
    hall.unload(0);
    hall.powder(1, 100);
    hall.powder(2, 100);
    hall.load(1, 1);
    int there = told(hall, FULL);
    hall.start(1, there, 200, 5);
    hall.grow(1, 8);
    hall.relieve(there);
    hall.saw(there);
    check.due("other machine", hall.accept(there), 1);
    check.due("the same one", hall.accept(0), 0);
    otherAlloy();
    MeltPool near = loaded();
    near.prove(sawn(near, 399, 20, FULL));
    check.due("next power, least speed", near.accept(sawn(near, 400, 1, FULL)), 1);
  }

  private void otherAlloy() {
    // A machine that takes another alloy was cleaned, so only both proofs tell that they differ.
    MeltPool hall = loaded();
    hall.powder(2, 100);
    int first = sawn(hall, 200, 5, FULL);
    hall.clean(0);
    hall.load(0, 1);
    int second = sawn(hall, 200, 5, FULL);
    check.due("prove by the first", hall.prove(first), true);
    check.due("other alloy", hall.accept(second), 1);
    hall.prove(second);
    check.due("both are proofs", hall.ofMachine(0, 4), 2);
  }

  private void accept() {
    check.title("promise 17");
    MeltPool hall = loaded();
    int bad = sawn(hall, 200, 5, (1L << 18) - 1, Long.MIN_VALUE);
    int stopped = told(hall, FULL, FULL);
    hall.start(0, stopped, 200, 5);
    hall.stop(0);
    hall.stop(0);
    hall.grow(0, 8);
    hall.relieve(stopped);
    hall.saw(stopped);
    int once = told(hall, FULL, FULL);
    hall.start(0, once, 200, 5);
    hall.grow(0, 1);
    hall.stop(0);
    hall.grow(0, 8);
    hall.relieve(once);
    check.refused("accept a relieved one", hall, ISE, () -> hall.accept(once));
    hall.saw(once);
    check.due("not proved (nor dense)", hall.accept(bad), 1);
    check.due("not proved (nor without stops)", hall.accept(stopped), 1);
    check.due("one with stops proves", hall.prove(stopped), true);
    check.due("not dense", hall.accept(bad), 2);
    check.due("stopped twice", hall.accept(stopped), 3);
    check.due("it is sawn still", hall.ofPiece(stopped, 0), 4);
    check.due("stopped once", hall.accept(once), 0);
    check.due("accepted", hall.ofPiece(once, 0), 5);
    check.refused("accept twice", hall, ISE, () -> hall.accept(once));
    check.refused("prove by an accepted one", hall, ISE, () -> hall.prove(once));
    hall.clean(0);
    check.due("proofs are lost", hall.accept(stopped), 1);
    check.due("accepted it stays", hall.ofPiece(once, 0), 5);
    check.refused("accept(3)", hall, IOB, () -> hall.accept(3));
    check.refused("accept(-1)", hall, IOB, () -> hall.accept(-1));
    MeltPool dense = loaded();
    int both = told(dense, (1L << 18) - 1, Long.MIN_VALUE);
    dense.start(0, both, 200, 5);
    dense.stop(0);
    dense.stop(0);
    dense.grow(0, 8);
    dense.relieve(both);
    dense.saw(both);
    dense.prove(sawn(dense, 200, 5, FULL));
    check.due("density bars ahead of stops", dense.accept(both), 2);
  }

  // ---- promises 18 to 25: what one asks

  private void ofPiece() {
    check.title("promise 18");
    MeltPool hall = loaded();
    told(hall, at(0, 0), at(0, 0), at(0, 0, 3, 3, 4, 3), at(4, 3));
    int[] solid = {0, 4, 6, 2, 1, 4, 0, 0, 0, 0, -1, -1, -1, -1, -1};
    for (int what = 0; what < 15; what++) {
      check.due("ofPiece(0, " + what + ") of a solid", hall.ofPiece(0, what), solid[what]);
    }
    hall.start(0, 0, 200, 5);
    hall.grow(0, 3);
    hall.stop(0);
    int[] growing = {1, 4, 6, 2, 1, 4, 3, 0, 2, 1, 0, 200, 5, 0, 1};
    for (int what = 0; what < 15; what++) {
      check.due("ofPiece(0, " + what + ") of a growing one", hall.ofPiece(0, what), growing[what]);
    }
    check.refused("ofPiece(0, -1)", hall, IAE, () -> hall.ofPiece(0, -1));
    check.refused("ofPiece(0, 15)", hall, IAE, () -> hall.ofPiece(0, 15));
    check.refused("ofPiece(1, 15)", hall, IOB, () -> hall.ofPiece(1, 15));
    check.refused("ofPiece(-1, 0)", hall, IOB, () -> hall.ofPiece(-1, 0));
  }

  private void ofLayer() {
    check.title("promise 19");
    MeltPool hall = new MeltPool();
    // The one below may be a neighbour in x or y, but not across an edge, nor across a corner.
    told(hall, at(0, 3, 7, 3), at(1, 3, 0, 2, 0, 4, 7, 2, 6, 3, 7, 4, 0, 5, 1, 4));
    check.due("hanging", hall.ofLayer(0, 1, 1), at(0, 5, 1, 4));
    check.due("layer 0 never hangs", hall.ofLayer(0, 0, 1), 0L);
    hall.layer(0, 0, at(7, 3, 0, 7));
    hall.layer(0, 1, at(0, 4, 7, 4, 0, 3, 7, 6, 0, 0, 7, 0));
    check.due("not across an edge", hall.ofLayer(0, 1, 1), at(0, 4, 0, 3, 7, 6, 0, 0, 7, 0));
    MeltPool deep = new MeltPool();
    told(deep, at(1, 1), 0L, at(2, 2), 0L, at(2, 2), at(1, 1), 0L, at(1, 1, 5, 5));
    long[] support = {
      at(5, 5, 2, 2), at(1, 1, 5, 5, 2, 2), at(1, 1, 5, 5), at(1, 1, 5, 5, 2, 2), at(1, 1, 5, 5),
      at(5, 5), at(1, 1, 5, 5), 0L
    };
    for (int k = 0; k < 8; k++) {
      check.due("ofLayer(0, " + k + ", 2)", deep.ofLayer(0, k, 2), support[k]);
    }
    check.due("top cells", deep.ofLayer(0, 7, 0), at(1, 1, 5, 5));
    check.due("support holds up nothing else", deep.ofPiece(0, 3), 5);
    check.refused("ofLayer(0, 8, 0)", hall, IOB, () -> hall.ofLayer(0, 8, 0));
    check.refused("ofLayer(0, -1, 3)", hall, IOB, () -> hall.ofLayer(0, -1, 3));
    check.refused("ofLayer(1, 0, 0)", hall, IOB, () -> hall.ofLayer(1, 0, 0));
    check.refused("ofLayer(-1, 0, 0)", hall, IOB, () -> hall.ofLayer(-1, 0, 0));
    check.refused("ofLayer(0, 0, 3)", hall, IAE, () -> hall.ofLayer(0, 0, 3));
    check.refused("ofLayer(0, 0, -1)", hall, IAE, () -> hall.ofLayer(0, 0, -1));
  }

  private void islands() {
    check.title("islands");
    MeltPool hall = new MeltPool();
    told(hall, at(0, 0), at(0, 0, 1, 0, 2, 0));
    check.due("a part with one just below it", hall.ofPiece(0, 4), 0);
    hall.layer(0, 1, at(1, 0, 2, 0));
    check.due("a neighbour below is not just below", hall.ofPiece(0, 4), 1);
    hall.layer(0, 1, at(1, 1, 2, 2, 7, 3, 0, 4));
    check.due("corners and edges do not join", hall.ofPiece(0, 4), 4);
    hall.layer(0, 0, 0L);
    hall.layer(0, 1, FULL);
    check.due("above nothing", hall.ofPiece(0, 4), 1);
    // A winding part, which only its far end joins to the cell below.
    long snake = 0xFF80FF01FF80FF01L;
    hall.layer(0, 0, 1L);
    hall.layer(0, 1, snake);
    check.due("a winding part", hall.ofPiece(0, 4), 0);
    hall.layer(0, 0, snake << 1 & ~snake);
    check.due("a winding part above others", hall.ofPiece(0, 4), 1);
    hall.layer(0, 0, FULL);
    hall.layer(0, 2, at(0, 0, 7, 7, 0, 1));
    check.due("islands of all layers", hall.ofPiece(0, 4), 0);
    hall.layer(0, 3, at(5, 5, 0, 0));
    hall.layer(0, 4, at(0, 7));
    check.due("islands of all layers", hall.ofPiece(0, 4), 2);
  }

  private void ofPowder() {
    check.title("promise 20");
    MeltPool hall = new MeltPool();
    hall.powder(2, 70);
    hall.powder(2, 30);
    hall.blend(1, 0);
    hall.load(1, 1);
    hall.unload(1);
    hall.load(1, 1);
    int[] first = {2, 0, 0, 1, -1};
    int[] second = {2, 0, 1, 3, 1};
    for (int what = 0; what < 5; what++) {
      check.due("ofPowder(0, " + what + ")", hall.ofPowder(0, what), first[what]);
      check.due("ofPowder(1, " + what + ")", hall.ofPowder(1, what), second[what]);
    }
    check.refused("ofPowder(2, 5)", hall, IOB, () -> hall.ofPowder(2, 5));
    check.refused("ofPowder(-1, 0)", hall, IOB, () -> hall.ofPowder(-1, 0));
    check.refused("ofPowder(0, 5)", hall, IAE, () -> hall.ofPowder(0, 5));
    check.refused("ofPowder(0, -1)", hall, IAE, () -> hall.ofPowder(0, -1));
  }

  private void ofMachine() {
    check.title("promise 21");
    MeltPool hall = new MeltPool();
    hall.powder(0, 70);
    hall.powder(2, 400);
    hall.load(0, 1);
    hall.prove(sawn(hall, 200, 5, FULL));
    hall.start(0, told(hall, 1L), 200, 5);
    int[] want = {2, 1, 400 - 64, 1, 1};
    int[] other = {-1, -1, 0, -1, 0};
    for (int what = 0; what < 5; what++) {
      check.due("ofMachine(0, " + what + ")", hall.ofMachine(0, what), want[what]);
      check.due("ofMachine(1, " + what + ")", hall.ofMachine(1, what), other[what]);
    }
    check.refused("ofMachine(2, 5)", hall, IOB, () -> hall.ofMachine(2, 5));
    check.refused("ofMachine(-1, 0)", hall, IOB, () -> hall.ofMachine(-1, 0));
    check.refused("ofMachine(0, 5)", hall, IAE, () -> hall.ofMachine(0, 5));
    check.refused("ofMachine(0, -1)", hall, IAE, () -> hall.ofMachine(0, -1));
  }

  private void warm() {
    check.title("promise 22");
    MeltPool hall = loaded();
    int piece = told(hall, at(2, 5, 7, 7), at(2, 5, 3, 5), at(2, 5));
    check.due("warm without one", hall.warm(0, 2, 5), 0.0);
    hall.start(0, piece, 200, 5);
    check.due("warm at first", hall.warm(0, 2, 5), 0.0);
    hall.grow(0, 1);
    check.due("warm of a cell", hall.warm(0, 2, 5), 1.0);
    check.due("warm of none", hall.warm(0, 5, 2), 0.0);
    hall.grow(0, 1);
    check.due("warm of two", hall.warm(0, 2, 5), 1.5);
    check.due("warm of one before", hall.warm(0, 7, 7), 0.5);
    check.due("the other machine", hall.warm(1, 2, 5), 0.0);
    int[][] wrong = {{2, 0, 0}, {-1, 0, 0}, {0, 8, 0}, {0, 0, 8}, {0, -1, 0}, {0, 0, -1}, {1, 8, 0}};
    for (int[] w : wrong) {
      check.refused("warm(" + w[0] + ", " + w[1] + ", " + w[2] + ")", hall, IOB,
          () -> hall.warm(w[0], w[1], w[2]));
    }
    hall.grow(0, 1);
    check.due("warm as it is grown", hall.warm(0, 2, 5), 0.0);
    hall.start(0, told(hall, 1L), 200, 5);
    check.due("warm of the next one", hall.warm(0, 2, 5), 0.0);
  }

  private void measure() {
    check.title("promise 23");
    MeltPool hall = loaded();
    told(hall);
    check.due("density without cells", hall.measure(0, 0), 0.0);
    check.due("curl of a solid", hall.measure(0, 1), 0.0);
    hall.layer(0, 0, 0x7L);
    check.due("density of a solid", hall.measure(0, 0), 1.0);
    hall.layer(0, 1, at(1, 0, 6, 6));
    hall.layer(0, 2, at(1, 0, 6, 6, 6, 1));
    hall.start(0, 0, 241, 5);
    hall.grow(0, 1);
    check.due("3 holes of 8", hall.measure(0, 0), 1.0 - 3.0 / 8);
    hall.grow(0, 2);
    check.due("curl", hall.measure(0, 1), 0.125 * 0.75 + 0.125);
    check.due("all are holes", hall.measure(0, 0), 0.0);
    int lacks = sawn(hall, 50, 20, 0x3FL);
    hall.press(lacks);
    check.due("1 of 6 is a lack", hall.measure(lacks, 0), 1.0 - 1.0 / 6);
    check.refused("measure(2, 2)", hall, IOB, () -> hall.measure(2, 2));
    check.refused("measure(-1, 0)", hall, IOB, () -> hall.measure(-1, 0));
    check.refused("measure(0, 2)", hall, IAE, () -> hall.measure(0, 2));
    check.refused("measure(0, -1)", hall, IAE, () -> hall.measure(0, -1));
  }

  private void recall() {
    check.title("promise 24");
    MeltPool hall = new MeltPool();
    hall.powder(1, 300);
    hall.powder(1, 300);
    hall.load(0, 0);
    grown(hall, 200, 5, 1L);
    told(hall, 1L);
    hall.unload(0);
    check.due("recall(0)", hall.recall(0), 1);
    check.due("recall(1)", hall.recall(1), 0);
    hall.blend(1, 0);
    check.due("blending changes no past that was kept", hall.recall(1), 0);
    hall.load(0, 1);
    grown(hall, 200, 5, 1L);
    check.due("recall(0)", hall.recall(0), 5);
    check.due("recall(1)", hall.recall(1), 4);
    check.refused("recall(2)", hall, IOB, () -> hall.recall(2));
    check.refused("recall(-1)", hall, IOB, () -> hall.recall(-1));
  }

  private void many() {
    check.title("promise 25");
    MeltPool hall = new MeltPool();
    hall.powder(1, 500);
    hall.powder(1, 40);
    hall.load(0, 0);
    hall.load(1, 1);
    int good = sawn(hall, 200, 5, FULL);
    hall.prove(good);
    hall.accept(good);
    hall.saw(grown(hall, 200, 5, 1L));
    grown(hall, 200, 5, 1L, 0x1FFFF0000L);
    int other = told(hall, 1L, 1L);
    hall.start(1, other, 200, 5);
    hall.grow(1, 8);
    hall.relieve(other);
    hall.saw(other);
    hall.prove(other);
    int[] want = {4, 2, 2, 1, 2, 540 - 64 - 1 - 1 - 17 - 17 - 2, 1, 6};
    for (int what = 0; what < 8; what++) {
      check.due("many(" + what + ")", hall.many(what), want[what]);
    }
    check.refused("many(8)", hall, IAE, () -> hall.many(8));
    check.refused("many(-1)", hall, IAE, () -> hall.many(-1));
  }

  // ---- promises 26 to 29: what would be

  private void wouldHold() {
    check.title("promise 26");
    MeltPool hall = loaded();
    told(hall, 0L, 0L, at(0, 0), at(4, 0));
    long before = hall.digest();
    int[] want = {1, 1, 4, 4, 0, 0};
    for (int way = 0; way < 6; way++) {
      check.due("wouldHold(0, " + way + ")", hall.wouldHold(0, way), want[way]);
    }
    check.due("nothing is changed", hall.digest(), before);
    check.due("support as it lies", hall.ofPiece(0, 5), 5);
    hall.start(0, 0, 200, 5);
    check.due("of a growing one", hall.wouldHold(0, 2), 4);
    check.refused("wouldHold(1, 6)", hall, IOB, () -> hall.wouldHold(1, 6));
    check.refused("wouldHold(-1, 0)", hall, IOB, () -> hall.wouldHold(-1, 0));
    check.refused("wouldHold(0, 6)", hall, IAE, () -> hall.wouldHold(0, 6));
    check.refused("wouldHold(0, -1)", hall, IAE, () -> hall.wouldHold(0, -1));
  }

  private void bestWay() {
    check.title("promise 27");
    MeltPool hall = loaded();
    told(hall);
    check.due("an empty one", hall.bestWay(0), 0);
    hall.layer(0, 0, at(0, 0));
    check.due("all the same: the smallest", hall.bestWay(0), 0);
    hall.layer(0, 1, at(0, 0));
    hall.layer(0, 2, at(0, 0));
    check.due("the least height", hall.bestWay(0), 2);
    hall.layer(0, 0, at(0, 0, 1, 0, 2, 0));
    hall.layer(0, 1, 0L);
    hall.layer(0, 2, 0L);
    check.due("lies already", hall.bestWay(0), 0);
    // A table: upside down nothing hangs, though no lower than on its leg.
    hall.layer(0, 0, at(3, 3));
    hall.layer(0, 1, at(3, 3));
    hall.layer(0, 2, 0x3E3E3E3E3E00L);
    check.due("the fewest support", hall.bestWay(0), 1);
    hall.start(0, 0, 200, 5);
    check.due("of a growing one", hall.bestWay(0), 1);
    check.refused("bestWay(1)", hall, IOB, () -> hall.bestWay(1));
    check.refused("bestWay(-1)", hall, IOB, () -> hall.bestWay(-1));
  }

  private void bestSpeed() {
    check.title("promise 28");
    MeltPool hall = loaded();
    told(hall);
    check.due("an empty one", hall.bestSpeed(0, 50), 20);
    hall.layer(0, 0, FULL);
    // One layer has a depth of power / speed / 8: 2.0 or more up to a speed of power / 16.
    check.due("bestSpeed(0, 160)", hall.bestSpeed(0, 160), 10);
    check.due("bestSpeed(0, 159)", hall.bestSpeed(0, 159), 9);
    check.due("bestSpeed(0, 50)", hall.bestSpeed(0, 50), 3);
    check.due("bestSpeed(0, 400)", hall.bestSpeed(0, 400), 20);
    hall.layer(0, 7, 1L);
    check.due("of height 8", hall.bestSpeed(0, 160), 10);
    hall.layer(0, 7, 0L);
    hall.layer(0, 0, 0xFFL);
    hall.layer(0, 1, 0xFFFF000000000000L);
    check.due("those that hang want less, and curl is aside", hall.bestSpeed(0, 240), 15);
    hall.start(0, 0, 200, 5);
    hall.grow(0, 1);
    hall.stop(0);
    check.due("of a growing one", hall.bestSpeed(0, 240), 15);
    check.due("its warm is as it was", hall.warm(0, 0, 0), 0.0);
    check.refused("bestSpeed(1, 200)", hall, IOB, () -> hall.bestSpeed(1, 200));
    check.refused("bestSpeed(-1, 0)", hall, IOB, () -> hall.bestSpeed(-1, 0));
    for (int power : WRONG_POWERS) {
      check.refused("power " + power, hall, IAE, () -> hall.bestSpeed(0, power));
    }
  }

  private void digest() {
    check.title("promise 29");
    MeltPool hall = loaded();
    told(hall);
    grown(hall, 210, 5, FULL, at(1, 1), at(6, 6), 0xFF000000L);
    hall.powder(2, 5);
    long d = 9608;
    for (int what = 0; what < 8; what++) {
      d = d * 31 + hall.many(what);
    }
    for (int piece = 0; piece < 2; piece++) {
      for (int what = 0; what < 15; what++) {
        d = d * 31 + hall.ofPiece(piece, what);
      }
      d = d * 31 + (long) (hall.measure(piece, 1) * 8);
      d = d * 31 + hall.bestWay(piece);
      d = d * 31 + hall.bestSpeed(piece, 200);
      for (int n = 0; n < 24; n++) {
        d = d * 31 + hall.ofLayer(piece, n / 3, n % 3);
      }
    }
    for (int powder = 0; powder < 2; powder++) {
      for (int what = 0; what < 5; what++) {
        d = d * 31 + hall.ofPowder(powder, what);
      }
      d = d * 31 + hall.recall(powder);
    }
    for (int n = 0; n < 10; n++) {
      d = d * 31 + hall.ofMachine(n / 5, n % 5);
    }
    check.due("curl times 8, cut", (long) (hall.measure(1, 1) * 8), 8L);
    check.due("digest()", hall.digest(), d);
    check.due("digest() again", hall.digest(), d);
    check.due("digest() of a new one", new MeltPool().digest(), 1268384811855260712L);
  }
}
