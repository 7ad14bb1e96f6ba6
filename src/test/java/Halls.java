/** What the tests by hand share: halls to begin with, sets of places, and the count of wrong answers. */
abstract class Halls {
  static final Class<IndexOutOfBoundsException> IOB = IndexOutOfBoundsException.class;
  static final Class<IllegalArgumentException> IAE = IllegalArgumentException.class;
  static final Class<IllegalStateException> ISE = IllegalStateException.class;
  static final int LEAST = Integer.MIN_VALUE;
  static final int MOST = Integer.MAX_VALUE;
  static final long FULL = -1L;
  /** What a piece is, as ofPiece(_, 0) tells it. */
  static final int SOLID = 0;
  static final int GROWING = 1;
  static final int GROWN = 2;
  static final int RELIEVED = 3;
  static final int SAWN = 4;
  static final int ACCEPTED = 5;
  static final int SCRAP = 6;

  final Check check = new Check();

  /** A test of one sentence of the document, which is its title. */
  final void edge(String sentence, Runnable test) {
    check.title(sentence);
    try {
      test.run();
    } catch (RuntimeException e) {
      check.due("the test", e, "an end without an exception");
    }
  }

  /** A hall with powder 0 (alloy 1, 2000 grams) in machine 0. */
  static MeltPool loaded() {
    return loaded(2000);
  }

  static MeltPool loaded(int grams) {
    MeltPool hall = new MeltPool();
    hall.powder(1, grams);
    hall.load(0, 0);
    return hall;
  }

  static int told(MeltPool hall, long... layers) {
    int piece = hall.piece();
    for (int i = 0; i < layers.length; i++) {
      hall.layer(piece, i, layers[i]);
    }
    return piece;
  }

  static int grown(MeltPool hall, int power, int speed, long... layers) {
    int piece = told(hall, layers);
    hall.start(0, piece, power, speed);
    hall.grow(0, 8);
    return piece;
  }

  static int sawn(MeltPool hall, int power, int speed, long... layers) {
    int piece = grown(hall, power, speed, layers);
    hall.relieve(piece);
    hall.saw(piece);
    return piece;
  }

  /** A sound piece (number 0 of a loaded hall), brought as far as the state says. */
  static MeltPool withPieceAs(int state) {
    MeltPool hall = loaded();
    int piece = told(hall, FULL, FULL);
    if (state >= GROWING) {
      hall.start(0, piece, 200, 5);
    }
    if (state >= GROWN) {
      hall.grow(0, 8);
    }
    if (state >= RELIEVED && state != SCRAP) {
      hall.relieve(piece);
    }
    if (state >= SAWN) {
      hall.saw(piece);
    }
    if (state == ACCEPTED) {
      hall.prove(piece);
      hall.accept(piece);
    }
    return hall;
  }

  /** The set of these places: x, y, x, y .. */
  static long at(int... places) {
    long set = 0L;
    for (int i = 0; i < places.length; i += 2) {
      set |= 1L << places[i] + 8 * places[i + 1];
    }
    return set;
  }

  /** Each second place, beginning with (0, 0) or with (1, 0); none is beside another. */
  static long checkered(int begin) {
    long set = 0L;
    for (int place = 0; place < 64; place++) {
      if ((place % 8 + place / 8) % 2 == begin) {
        set |= 1L << place;
      }
    }
    return set;
  }
}
