import java.util.ArrayList;
import java.util.List;

/**
 * "A method that throws an exception changes nothing. If several exceptions apply, the one that is
 * named first is thrown."
 */
public final class RefusalsTest extends Halls {
  private interface Call {
    void on(MeltPool hall);
  }

  private static final class Refused {
    final String name;
    final Class<? extends RuntimeException> due;
    final Call call;

    Refused(String name, Class<? extends RuntimeException> due, Call call) {
      this.name = name;
      this.due = due;
      this.call = call;
    }
  }

  private final List<Refused> all = new ArrayList<>();

  public static void main(String[] args) {
    RefusalsTest test = new RefusalsTest();
    test.listSolids();
    test.listPowders();
    test.listGrowing();
    test.listBehind();
    test.listAsks();
    test.edge("the one that is named first is thrown", test::namedFirst);
    test.edge("a method that throws an exception changes nothing", test::changesNothing);
    test.edge("a full hall refuses, and changes nothing", test::fullHall);
    test.edge("an object is used for at most 512 calls: the last one, behind refused ones", test::lastCall);
    test.check.end();
  }

  // ---- the calls; those with more than one reason are marked by a name with "and"

  private void add(String name, Class<? extends RuntimeException> due, Call call) {
    all.add(new Refused(name, due, call));
  }

  private void listSolids() {
    add("piece: there are 4", ISE, h -> h.piece());
    add("layer: no piece", IOB, h -> h.layer(4, 0, 5L));
    add("layer: no layer", IOB, h -> h.layer(3, 8, 5L));
    add("layer: no layer and no solid", IOB, h -> h.layer(0, -1, 5L));
    add("layer: no piece and no layer", IOB, h -> h.layer(-1, -1, 5L));
    add("layer: no solid", ISE, h -> h.layer(0, 7, 5L));
    add("lay: no piece", IOB, h -> h.lay(4, 0));
    add("lay: no piece and no way", IOB, h -> h.lay(-1, 6));
    add("lay: no way", IAE, h -> h.lay(3, 6));
    add("lay: no way and no solid", IAE, h -> h.lay(0, -1));
    add("lay: no solid", ISE, h -> h.lay(0, 2));
  }

  private void listPowders() {
    add("powder: no alloy", IAE, h -> h.powder(3, 10));
    add("powder: no alloy and there are 6", IAE, h -> h.powder(-1, 10));
    add("powder: no grams and there are 6", IAE, h -> h.powder(0, 2001));
    add("powder: there are 6", ISE, h -> h.powder(0, 10));
    add("blend: no powder", IOB, h -> h.blend(0, 6));
    add("blend: no powder and both the same", IOB, h -> h.blend(-1, -1));
    add("blend: no first one and the second one in a machine", IOB, h -> h.blend(6, 0));
    add("blend: both the same", IAE, h -> h.blend(2, 2));
    add("blend: both the same and in a machine", IAE, h -> h.blend(0, 0));
    add("blend: other alloys", IAE, h -> h.blend(2, 4));
    add("blend: other alloys and one in a machine", IAE, h -> h.blend(0, 4));
    add("blend: the first one in a machine", ISE, h -> h.blend(0, 2));
    add("blend: the second one in a machine", ISE, h -> h.blend(2, 0));
    add("load: no machine", IOB, h -> h.load(2, 2));
    add("load: no machine and the powder in one", IOB, h -> h.load(-1, 0));
    add("load: no powder", IOB, h -> h.load(1, 6));
    add("load: no powder and the machine has one", IOB, h -> h.load(0, -1));
    add("load: the machine has one", ISE, h -> h.load(0, 2));
    add("load: the powder in a machine", ISE, h -> h.load(1, 0));
    add("load: no grams", ISE, h -> h.load(1, 3));
    add("unload: no machine", IOB, h -> h.unload(2));
    add("unload: one growing", ISE, h -> h.unload(0));
    add("unload: no powder", ISE, h -> h.unload(1));
    add("clean: no machine", IOB, h -> h.clean(2));
    add("clean: no machine", IOB, h -> h.clean(-1));
  }

  private void listGrowing() {
    add("start: no machine", IOB, h -> h.start(2, 3, 200, 5));
    add("start: no machine and no power", IOB, h -> h.start(-1, 3, 49, 5));
    add("start: no piece", IOB, h -> h.start(1, 4, 200, 5));
    add("start: no piece and no speed and one growing", IOB, h -> h.start(0, -1, 200, 0));
    add("start: no power", IAE, h -> h.start(1, 3, 401, 5));
    add("start: no power and no solid", IAE, h -> h.start(0, 0, 49, 5));
    add("start: no speed", IAE, h -> h.start(1, 3, 200, 21));
    add("start: no speed and no powder", IAE, h -> h.start(1, 3, 200, 0));
    add("start: no solid", ISE, h -> h.start(1, 1, 200, 5));
    add("start: one growing", ISE, h -> h.start(0, 3, 200, 5));
    add("start: no powder", ISE, h -> h.start(1, 3, 200, 5));
    add("grow: no machine", IOB, h -> h.grow(2, 1));
    add("grow: no machine and no layers", IOB, h -> h.grow(-1, 9));
    add("grow: no layers", IAE, h -> h.grow(0, 0));
    add("grow: no layers and none growing", IAE, h -> h.grow(1, 9));
    add("grow: none growing", ISE, h -> h.grow(1, 1));
    add("stop: no machine", IOB, h -> h.stop(2));
    add("stop: none growing", ISE, h -> h.stop(1));
  }

  private void listBehind() {
    add("relieve: no piece", IOB, h -> h.relieve(4));
    add("relieve: growing", ISE, h -> h.relieve(0));
    add("relieve: sawn", ISE, h -> h.relieve(1));
    add("relieve: relieved", ISE, h -> h.relieve(2));
    add("relieve: a solid", ISE, h -> h.relieve(3));
    add("saw: no piece", IOB, h -> h.saw(-1));
    add("saw: growing", ISE, h -> h.saw(0));
    add("saw: sawn", ISE, h -> h.saw(1));
    add("saw: a solid", ISE, h -> h.saw(3));
    add("press: no piece", IOB, h -> h.press(4));
    add("press: growing", ISE, h -> h.press(0));
    add("press: a solid", ISE, h -> h.press(3));
    add("prove: no piece", IOB, h -> h.prove(-1));
    add("prove: growing", ISE, h -> h.prove(0));
    add("prove: relieved", ISE, h -> h.prove(2));
    add("prove: a solid", ISE, h -> h.prove(3));
    add("accept: no piece", IOB, h -> h.accept(4));
    add("accept: growing", ISE, h -> h.accept(0));
    add("accept: relieved", ISE, h -> h.accept(2));
    add("accept: a solid", ISE, h -> h.accept(3));
  }

  private void listAsks() {
    add("ofPiece: no piece and no what", IOB, h -> h.ofPiece(4, 15));
    add("ofPiece: no what", IAE, h -> h.ofPiece(3, 15));
    add("ofLayer: no piece and no what", IOB, h -> h.ofLayer(-1, 0, 3));
    add("ofLayer: no layer and no what", IOB, h -> h.ofLayer(0, 8, 3));
    add("ofLayer: no what", IAE, h -> h.ofLayer(0, 7, -1));
    add("ofPowder: no powder and no what", IOB, h -> h.ofPowder(6, 5));
    add("ofPowder: no what", IAE, h -> h.ofPowder(5, 5));
    add("ofMachine: no machine and no what", IOB, h -> h.ofMachine(2, 5));
    add("ofMachine: no what", IAE, h -> h.ofMachine(1, -1));
    add("warm: no machine and no place", IOB, h -> h.warm(2, 8, 8));
    add("warm: no place", IOB, h -> h.warm(0, 0, -1));
    add("measure: no piece and no what", IOB, h -> h.measure(4, 2));
    add("measure: no what", IAE, h -> h.measure(0, 2));
    add("recall: no powder", IOB, h -> h.recall(6));
    add("many: no what", IAE, h -> h.many(8));
    add("wouldHold: no piece and no way", IOB, h -> h.wouldHold(-1, 6));
    add("wouldHold: no way", IAE, h -> h.wouldHold(0, 6));
    add("bestWay: no piece", IOB, h -> h.bestWay(4));
    add("bestSpeed: no piece and no power", IOB, h -> h.bestSpeed(4, 401));
    add("bestSpeed: no power", IAE, h -> h.bestSpeed(0, 49));
  }

  // ---- the tests

  /**
   * Piece 0 is growing in machine 0, warm, curled and stopped once; 1 is sawn and proved, 2 is
   * relieved, 3 is a solid. Powder 0 is in machine 0, 3 has no grams, 4 is of another alloy.
   */
  private static MeltPool busyHall() {
    MeltPool hall = new MeltPool();
    for (int i = 0; i < 6; i++) {
      hall.powder(i < 4 ? 1 : 2, 1000 + i);
    }
    hall.load(0, 0);
    told(hall, FULL, 0xFFL, 0xFF000000L, 0xFF000000L);
    sawn(hall, 50, 20, FULL);
    for (int i = 0; i < 3; i++) {
      hall.press(1);
    }
    hall.prove(1);
    grown(hall, 50, 20, 0xFFFFL);
    hall.relieve(2);
    told(hall, 0L, 0x3CL, 0xFF00L);
    hall.blend(2, 3);
    hall.start(0, 0, 200, 5);
    hall.grow(0, 1);
    hall.stop(0);
    hall.grow(0, 2);
    return hall;
  }

  private void namedFirst() {
    for (Refused refused : all) {
      MeltPool hall = busyHall();
      check.refused(refused.name, hall, refused.due, () -> refused.call.on(hall));
    }
  }

  private void changesNothing() {
    List<Object> due = new ArrayList<>();
    look(busyHall(), due);
    check.due("something is growing", busyHall().ofPiece(0, 0), GROWING);
    for (Refused refused : all) {
      MeltPool hall = busyHall();
      call(hall, refused);
      List<Object> got = new ArrayList<>();
      look(hall, got);
      check.due("behind " + refused.name, got, due);
    }
    List<Object> later = new ArrayList<>();
    goOn(busyHall(), later);
    for (Refused refused : all) {
      MeltPool hall = busyHall();
      call(hall, refused);
      List<Object> got = new ArrayList<>();
      goOn(hall, got);
      check.due("long behind " + refused.name, got, later);
    }
  }

  /** What a digest does not tell: each WARM, and DENSITY and CURL to their last bit. */
  private static void look(MeltPool hall, List<Object> seen) {
    seen.add(hall.digest());
    for (int n = 0; n < 128; n++) {
      seen.add(hall.warm(n / 64, n % 8, n / 8 % 8));
    }
    for (int n = 0; n < 8; n++) {
      seen.add(hall.measure(n / 2, n % 2));
    }
  }

  /** What nothing tells at once: the WINDOWS, and what becomes of the one that is growing. */
  private static void goOn(MeltPool hall, List<Object> seen) {
    seen.add(hall.accept(1));
    seen.add(hall.grow(0, 8));
    seen.add(hall.relieve(0));
    seen.add(hall.saw(0));
    seen.add(hall.saw(2));
    seen.add(hall.press(2));
    seen.add(hall.press(2));
    seen.add(hall.prove(2));
    seen.add(hall.accept(2));
    seen.add(hall.start(0, 3, 210, 5));
    seen.add(hall.grow(0, 2));
    seen.add(hall.stop(0));
    seen.add(hall.load(1, 2));
    look(hall, seen);
    seen.add(hall.clean(0));
    seen.add(hall.unload(1));
    look(hall, seen);
  }

  private void call(MeltPool hall, Refused refused) {
    Object got = "nothing";
    try {
      refused.call.on(hall);
    } catch (RuntimeException e) {
      got = e.getClass();
    }
    check.due(refused.name + " throws", got, refused.due);
  }

  private void fullHall() {
    MeltPool hall = busyHall();
    for (Refused refused : all) {
      call(hall, refused);
    }
    List<Object> due = new ArrayList<>();
    look(busyHall(), due);
    List<Object> got = new ArrayList<>();
    look(hall, got);
    check.due("behind all of them", got, due);
  }

  private void lastCall() {
    MeltPool hall = new MeltPool();
    hall.piece();
    Refused refused = new Refused("layer 8", IOB, h -> h.layer(0, 8, FULL));
    for (int calls = 1; calls <= 510; calls++) {
      call(hall, refused);
    }
    check.due("layer()", hall.layer(0, 7, FULL), 64);
  }
}
