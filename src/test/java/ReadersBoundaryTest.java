/** Terms 3 and promises 5 to 9 and 31 to 33: readers and positions, at each bound and beyond it. */
public final class ReadersBoundaryTest {
  private interface CallOf {
    Object on(HashedDirectory x, int reader);
  }

  /** All calls that take a reader; the first four of them want it to be open. */
  private static final CallOf[] CALLS = {
    HashedDirectory::close, HashedDirectory::next, HashedDirectory::readLeaf,
    (x, reader) -> x.seek(reader, 0), HashedDirectory::open, HashedDirectory::position,
    HashedDirectory::peek, HashedDirectory::remaining
  };
  private static final int CALLS_OF_OPEN_READERS = 4;

  private ReadersBoundaryTest() {}

  public static void main(String[] args) {
    readersAreZeroToThree();
    allReadersAreClosedAtFirst();
    openCountsOneToFour();
    openingAnewGoesToStart();
    closeAnswersAnyPosition();
    positionsAreStartToTheLastKey();
    positionsOutOfRange();
    theLeastKeyIsBehindStart();
    theGreatestKeyIsBehindTheOneBeforeIt();
    atAKeyAndBesideIt();
    behindTheLastEntry();
    readersOfAnEmptyDirectory();
    readLeafFromEachEntryOfALeaf();
    readLeafOverEmptyLeaves();
    readLeafUpToTheLeastKeyOfTheNextLeaf();
    readLeafOfOneEntry();
    readLeafOfMoreThanFour();
    readLeafOfTheRoot();
    remainingOfNoneToForty();
    positionsStayWhenNamesComeAndGo();
    positionsStayWhenAnEntryIsRenamed();
    positionsStayWhenTheTreeIsSplitAndMerged();
    readersDoNotMoveOneAnother();
    Check.finish("ReadersBoundaryTest");
  }

  private static void dueReader(String when, HashedDirectory x, int position, int peek, int left) {
    Check.due("position(0) " + when, x.position(0), position);
    Check.due("peek(0) " + when, x.peek(0), peek);
    Check.due("remaining(0) " + when, x.remaining(0), left);
  }

  private static HashedDirectory reading(HashedDirectory x) {
    x.open(0);
    return x;
  }

  /** "There are four readers, numbered 0 to 3." */
  private static void readersAreZeroToThree() {
    for (CallOf call : CALLS) {
      for (int reader = -1; reader <= 4; reader++) {
        HashedDirectory x = Check.with("a");
        int number = reader;
        boolean is = reader >= 0 && reader <= 3;
        if (is) {
          x.open(reader);
        }
        String answer = Check.answer(() -> call.on(x, number));
        Check.due("a call of the reader " + reader, answer.equals(Check.INDEX), !is);
        Check.due("a call of the reader " + reader, answer.startsWith("throws."), !is);
      }
    }
  }

  /** "at first all readers are closed": NONE for the queries, an exception for the others. */
  private static void allReadersAreClosedAtFirst() {
    HashedDirectory x = Check.with("a");
    for (int reader = 0; reader < 4; reader++) {
      Check.due("position() of a closed reader", x.position(reader), -2);
      Check.due("peek() of a closed reader", x.peek(reader), -2);
      Check.due("remaining() of a closed reader", x.remaining(reader), -2);
      for (int i = 0; i < CALLS_OF_OPEN_READERS; i++) {
        CallOf call = CALLS[i];
        int number = reader;
        Check.due("call " + i + " of a closed reader", Check.answer(() -> call.on(x, number)),
            Check.STATE);
      }
    }
  }

  /** Promise 5: "the number of open readers after the call" */
  private static void openCountsOneToFour() {
    HashedDirectory x = new HashedDirectory();
    for (int reader = 3; reader >= 0; reader--) {
      Check.due("open(" + reader + ")", x.open(reader), 4 - reader);
    }
    for (int reader = 0; reader < 4; reader++) {
      Check.due("open(" + reader + ") anew", x.open(reader), 4);
    }
    x.close(0);
    x.close(3);
    Check.due("open(1) anew", x.open(1), 2);
    Check.due("open(3)", x.open(3), 3);
  }

  /** Promise 5: "A reader that is open already is opened anew.", from any position. */
  private static void openingAnewGoesToStart() {
    for (int position : new int[] {-1, 0, 36000, 63999}) {
      HashedDirectory x = reading(Check.with("a"));
      x.seek(0, position);
      Check.due("open(0) anew", x.open(0), 1);
      dueReader("opened anew", x, -1, 0, 1);
    }
  }

  /** Promise 6: "the position that the reader had" */
  private static void closeAnswersAnyPosition() {
    for (int position : new int[] {-1, 0, 36000, 63999}) {
      HashedDirectory x = reading(Check.with("a"));
      x.seek(0, position);
      Check.due("close(0)", x.close(0), position);
      dueReader("closed", x, -2, -2, -2);
      Check.due("close(0) again", Check.answer(() -> x.close(0)), Check.STATE);
    }
  }

  /** Promise 9: "START, or 0 to 63999; it need not be the key of an entry" */
  private static void positionsAreStartToTheLastKey() {
    HashedDirectory x = reading(new HashedDirectory());
    int before = -1;
    for (int position : new int[] {-1, 0, 1, 999, 1000, 32000, 63998, 63999, -1}) {
      Check.due("seek(0, " + position + ")", x.seek(0, position), before);
      Check.due("position(0)", x.position(0), position);
      before = position;
    }
  }

  private static void positionsOutOfRange() {
    HashedDirectory x = reading(new HashedDirectory());
    x.seek(0, 17);
    for (int position : new int[] {-2, -3, 64000, 64001, Integer.MIN_VALUE, Integer.MAX_VALUE}) {
      Check.due("seek(0, " + position + ")", Check.answer(() -> x.seek(0, position)),
          Check.ARGUMENT);
      Check.due("position(0)", x.position(0), 17);
    }
  }

  /** "the least key that is greater than its position": the key 0 is greater than START alone. */
  private static void theLeastKeyIsBehindStart() {
    HashedDirectory x = reading(Check.with("al"));
    dueReader("at START", x, -1, 0, 1);
    Check.due("next(0)", x.next(0), 0);
    dueReader("at the key 0", x, 0, -2, 0);
    x.seek(0, HashedDirectory.START);
    Check.due("readLeaf(0)", x.readLeaf(0), 1);
    dueReader("at the key 0", x, 0, -2, 0);
    x.seek(0, 0);
    Check.due("next(0)", x.next(0), -2);
  }

  /** "ak" has the hash 63, and so the key 63999. */
  private static void theGreatestKeyIsBehindTheOneBeforeIt() {
    HashedDirectory x = reading(Samples.spent(999));
    Check.due("add() of the last id", Check.add(x, "ak"), 999);
    x.seek(0, 63998);
    dueReader("at 63998", x, 63998, 999, 1);
    Check.due("readLeaf(0)", x.readLeaf(0), 1);
    dueReader("at 63999", x, 63999, -2, 0);
    x.seek(0, 63998);
    Check.due("next(0)", x.next(0), 999);
    dueReader("at 63999", x, 63999, -2, 0);
    Check.due("next(0)", x.next(0), -2);
    Check.due("readLeaf(0)", x.readLeaf(0), 0);
  }

  /** "a", "b" and "c" have the keys 36000, 37001 and 38002. */
  private static void atAKeyAndBesideIt() {
    int[] positions = {35999, 36000, 36001, 37000, 37001, 37002};
    int[] next = {0, 1, 1, 1, 2, 2};
    int[] left = {3, 2, 2, 2, 1, 1};
    int[] keys = {36000, 37001, 37001, 37001, 38002, 38002};
    for (int i = 0; i < positions.length; i++) {
      HashedDirectory x = reading(Check.with("a", "b", "c"));
      x.seek(0, positions[i]);
      dueReader("by seek(0)", x, positions[i], next[i], left[i]);
      Check.due("next(0) behind " + positions[i], x.next(0), next[i]);
      Check.due("position(0)", x.position(0), keys[i]);
      x.seek(0, positions[i]);
      Check.due("readLeaf(0) behind " + positions[i], x.readLeaf(0), left[i]);
      Check.due("position(0)", x.position(0), 38002);
    }
  }

  /** Promise 7: "NONE if there is no next entry (the position does not change then)" */
  private static void behindTheLastEntry() {
    for (int position : new int[] {38002, 38003, 63999}) {
      HashedDirectory x = reading(Check.with("a", "b", "c"));
      x.seek(0, position);
      dueReader("behind the last entry", x, position, -2, 0);
      Check.due("next(0)", x.next(0), -2);
      Check.due("readLeaf(0)", x.readLeaf(0), 0);
      dueReader("behind the last entry still", x, position, -2, 0);
    }
    HashedDirectory x = reading(Check.with("a", "b", "c"));
    x.seek(0, 38001);
    Check.due("next(0) before the last entry", x.next(0), 2);
  }

  private static void readersOfAnEmptyDirectory() {
    HashedDirectory x = reading(new HashedDirectory());
    Check.due("next(0)", x.next(0), -2);
    Check.due("readLeaf(0)", x.readLeaf(0), 0);
    dueReader("of an empty directory", x, -1, -2, 0);
  }

  /** Promise 8: "from the next entry of a reader to the last entry of the leaf that holds it". */
  private static void readLeafFromEachEntryOfALeaf() {
    int[] positions = {-1, 35999, 36000, 37001, 38002};
    int[] read = {4, 4, 3, 2, 1};
    for (int i = 0; i < positions.length; i++) {
      HashedDirectory x = reading(Check.with("a", "b", "c", "d", "e", "f"));
      x.seek(0, positions[i]);
      Check.due("readLeaf(0) from " + positions[i], x.readLeaf(0), read[i]);
      dueReader("at the end of the leaf", x, 39003, 4, 2);
      Check.due("readLeaf(0) of the next leaf", x.readLeaf(0), 2);
      dueReader("at the end of the last leaf", x, 41005, -2, 0);
      Check.due("readLeaf(0) at the end", x.readLeaf(0), 0);
      dueReader("at the end still", x, 41005, -2, 0);
    }
  }

  /** From 0 the empty leaf of 0 to 31 is passed, and from 40004 that of 48 to 63 holds "z". */
  private static void readLeafOverEmptyLeaves() {
    HashedDirectory x = reading(Check.with("a", "b", "c", "d", "e", "z"));
    x.seek(0, 0);
    Check.due("readLeaf(0) from an empty leaf", x.readLeaf(0), 4);
    Check.due("readLeaf(0) of one entry", x.readLeaf(0), 1);
    dueReader("at e", x, 40004, 5, 1);
    x.remove(4);
    x.seek(0, 39003);
    Check.due("readLeaf(0) over a leaf that is empty now", x.readLeaf(0), 1);
    dueReader("at z", x, 61005, -2, 0);
  }

  /** The key 32000 is the least of its leaf, and the leaf before it ends with 31999. */
  private static void readLeafUpToTheLeastKeyOfTheNextLeaf() {
    HashedDirectory x = new HashedDirectory();
    Check.add(x, Samples.nameWithHash(32));
    Samples.addAll(x, Samples.namesWithHash(31, 4));
    Check.due("leaves()", x.leaves(), 2);
    x.open(0);
    Check.due("readLeaf(0) of 0 to 31", x.readLeaf(0), 4);
    dueReader("at the end of the leaf", x, 31004, 0, 1);
    Check.due("readLeaf(0) of 32 to 63", x.readLeaf(0), 1);
    dueReader("at the last entry", x, 32000, -2, 0);
  }

  private static void readLeafOfOneEntry() {
    HashedDirectory x = reading(Check.with("z"));
    Check.due("readLeaf(0) of one entry", x.readLeaf(0), 1);
    dueReader("at z", x, 61000, -2, 0);
  }

  /** Leaves of the depth 6 hold more than four, and their neighbours are other leaves. */
  private static void readLeafOfMoreThanFour() {
    HashedDirectory x = new HashedDirectory();
    Samples.addAll(x, Samples.namesWithHash(0, 5));
    Samples.addAll(x, Samples.namesWithHash(1, 6));
    Samples.addAll(x, Samples.namesWithHash(2, 1));
    x.open(0);
    int[] read = {5, 6, 1, 0};
    int[] positions = {4, 1010, 2011, 2011};
    for (int i = 0; i < read.length; i++) {
      Check.due("readLeaf(0) of the hash " + i, x.readLeaf(0), read[i]);
      Check.due("position(0)", x.position(0), positions[i]);
    }
  }

  private static void readLeafOfTheRoot() {
    HashedDirectory x = reading(Check.with("al", "ak"));
    Check.due("readLeaf(0) of 0 and 63", x.readLeaf(0), 2);
    dueReader("at ak", x, 63001, -2, 0);
  }

  /** Promise 33: "the number of entries whose keys are greater than the position" */
  private static void remainingOfNoneToForty() {
    HashedDirectory x = reading(Samples.filled(40));
    Check.due("remaining(0) of 40 entries", x.remaining(0), 40);
    for (int left = 39; left >= 0; left--) {
      x.next(0);
      Check.due("remaining(0)", x.remaining(0), left);
    }
    Check.due("next(0) behind 40 entries", x.next(0), -2);
    Check.due("readLeaf(0) behind 40 entries", x.readLeaf(0), 0);
    dueReader("behind 40 entries", x, 63031, -2, 0);
  }

  /** "Positions of readers do not change by these operations." */
  private static void positionsStayWhenNamesComeAndGo() {
    HashedDirectory x = reading(Check.with("a", "b", "c"));
    x.next(0);
    x.next(0);
    dueReader("at b", x, 37001, 2, 1);
    x.remove(1);
    dueReader("at the key of a removed entry", x, 37001, 2, 1);
    x.remove(2);
    dueReader("behind the last entry", x, 37001, -2, 0);
    Check.add(x, "al");
    dueReader("behind an add before it", x, 37001, -2, 0);
    Check.add(x, "b");
    dueReader("behind an add of the same hash", x, 37001, 4, 1);
    Check.run(x, "-a;-b;-al");
    dueReader("of an empty directory", x, 37001, -2, 0);
  }

  private static void positionsStayWhenAnEntryIsRenamed() {
    HashedDirectory x = reading(Check.with("a", "b", "c"));
    x.next(0);
    x.next(0);
    Check.type(x, "z");
    x.rename(1);
    dueReader("behind rename() to z", x, 37001, 2, 2);
    Check.run(x, "z=al");
    dueReader("behind rename() to al", x, 37001, 2, 1);
    Check.run(x, "al=b");
    dueReader("behind rename() to b", x, 37001, 5, 2);
  }

  private static void positionsStayWhenTheTreeIsSplitAndMerged() {
    HashedDirectory x = reading(Check.with("a", "b", "c", "d"));
    x.next(0);
    x.next(0);
    Check.add(x, "e");
    Check.due("splits()", x.splits(), 3);
    dueReader("behind splits", x, 37001, 2, 3);
    Check.due("readLeaf(0) of a leaf that was split", x.readLeaf(0), 2);
    dueReader("at d", x, 39003, 4, 1);
    Check.run(x, "-a;-b;-c");
    Check.due("merges()", x.merges(), 3);
    dueReader("behind merges", x, 39003, 4, 1);
    x.seek(0, -1);
    Check.due("readLeaf(0) of the leaf that was merged", x.readLeaf(0), 2);
  }

  private static void readersDoNotMoveOneAnother() {
    HashedDirectory x = Check.with("a", "b");
    for (int reader = 0; reader < 4; reader++) {
      x.open(reader);
    }
    x.next(1);
    x.readLeaf(2);
    x.seek(3, 5);
    x.close(0);
    int[] positions = {-2, 36000, 37001, 5};
    for (int reader = 0; reader < 4; reader++) {
      Check.due("position(" + reader + ")", x.position(reader), positions[reader]);
    }
  }
}
