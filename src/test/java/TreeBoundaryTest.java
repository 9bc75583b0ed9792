/** Terms 2 and promises 24 to 30: splits and merges at each bound and just beyond it. */
public final class TreeBoundaryTest {
  private TreeBoundaryTest() {}

  public static void main(String[] args) {
    theRootIsAnEmptyLeafAtFirst();
    eachDepthHasItsBit();
    eachDepthHasItsBitAtTheHighEnd();
    fourEntriesOfTheRootAndAFifth();
    fourEntriesOfALeafAndAFifth();
    aSplitEndsWhereTheLeafHoldsFour();
    noLeafIsDeeperThanSix();
    fortyEntriesOfOneHash();
    twoOfTwoSiblingsMergeAndThreeDoNot();
    twoOfOneSiblingMerge();
    twoOfTheOtherSiblingMerge();
    mergesGoOnFromTheLeafThatChangedLast();
    aSiblingThatIsNoLeaf();
    theRootHasNoSibling();
    addingNeverMerges();
    aRenameMergesFirst();
    aRenameSplitsNext();
    theMeanOfNoEntriesAndOfForty();
    leavesIfAFifthWasAdded();
    hashesOfTheTree();
    Check.finish("TreeBoundaryTest");
  }

  /** Adds names of the left hash and then of the right one; the ids are from 0 on. */
  private static HashedDirectory two(int left, int lefts, int right, int rights) {
    HashedDirectory x = new HashedDirectory();
    for (String name : Samples.namesWithHash(left, lefts)) {
      Check.add(x, name);
    }
    for (String name : Samples.namesWithHash(right, rights)) {
      Check.add(x, name);
    }
    return x;
  }

  private static void dueTree(String when, HashedDirectory x, int leaves, int splits, int merges) {
    Check.due("leaves() " + when, x.leaves(), leaves);
    Check.due("splits() " + when, x.splits(), splits);
    Check.due("merges() " + when, x.merges(), merges);
  }

  private static void dueLeaf(HashedDirectory x, int hash, int depth, int size) {
    Check.due("depthOf(" + hash + ")", x.depthOf(hash), depth);
    Check.due("leafSize(" + hash + ")", x.leafSize(hash), size);
  }

  /** "At first the root of the tree is an empty leaf. The depth of the root is 0". */
  private static void theRootIsAnEmptyLeafAtFirst() {
    HashedDirectory x = new HashedDirectory();
    dueTree("of a new object", x, 1, 0, 0);
    for (int hash = 0; hash < 64; hash++) {
      dueLeaf(x, hash, 0, 0);
    }
  }

  /**
   * "a left child for the hashes whose bit 5 - d is 0, and a right child for those whose bit 5 - d
   * is 1": 31 and 32 part at the root, 15 and 16 below it, down to 0 and 1.
   */
  private static void eachDepthHasItsBit() {
    for (int depth = 0; depth < 6; depth++) {
      int right = 32 >> depth;
      HashedDirectory x = two(right - 1, 4, right, 1);
      dueTree("of " + right, x, depth + 2, depth + 1, 0);
      dueLeaf(x, 0, depth + 1, 4);
      dueLeaf(x, right - 1, depth + 1, 4);
      dueLeaf(x, right, depth + 1, 1);
      dueLeaf(x, 2 * right - 1, depth + 1, 1);
      if (depth > 0) {
        dueLeaf(x, 2 * right, depth, 0);
        dueLeaf(x, 63, 1, 0);
      }
    }
  }

  /** 31 and 32 again, 47 and 48, up to 62 and 63. */
  private static void eachDepthHasItsBitAtTheHighEnd() {
    for (int depth = 0; depth < 6; depth++) {
      int right = 64 - (32 >> depth);
      int first = right - (32 >> depth);
      HashedDirectory x = two(right, 4, right - 1, 1);
      dueTree("of " + right, x, depth + 2, depth + 1, 0);
      dueLeaf(x, 63, depth + 1, 4);
      dueLeaf(x, right, depth + 1, 4);
      dueLeaf(x, right - 1, depth + 1, 1);
      dueLeaf(x, first, depth + 1, 1);
      if (depth > 0) {
        dueLeaf(x, first - 1, depth, 0);
        dueLeaf(x, 0, 1, 0);
      }
    }
  }

  /** "as long as this leaf holds more than 4 entries": 31 and 32 part with one split. */
  private static void fourEntriesOfTheRootAndAFifth() {
    HashedDirectory x = two(31, 2, 32, 2);
    dueTree("of four entries", x, 1, 0, 0);
    dueLeaf(x, 31, 0, 4);
    Check.add(x, Samples.namesWithHash(31, 3)[2]);
    dueTree("of five entries", x, 2, 1, 0);
    dueLeaf(x, 31, 1, 3);
    dueLeaf(x, 32, 1, 2);
  }

  /** A leaf of each depth above 0 that holds four of one hash, and then five and six. */
  private static void fourEntriesOfALeafAndAFifth() {
    for (int depth = 1; depth <= 6; depth++) {
      int hash = (64 >> depth) - 1;
      String[] names = Samples.namesWithHash(hash, 6);
      HashedDirectory x = two(hash, 3, hash + 1, 2);
      dueLeaf(x, hash, depth, 3);
      Check.add(x, names[3]);
      dueTree("of a leaf of four", x, depth + 1, depth, 0);
      dueLeaf(x, hash, depth, 4);
      Check.add(x, names[4]);
      dueTree("of a leaf of five", x, 7, 6, 0);
      dueLeaf(x, hash, 6, 5);
      dueLeaf(x, hash + 1, depth, 2);
      Check.add(x, names[5]);
      dueTree("of a leaf of six", x, 7, 6, 0);
      dueLeaf(x, hash, 6, 6);
    }
  }

  /** "the leaf of the hash of the new entry is looked at next": with up to four of the five. */
  private static void aSplitEndsWhereTheLeafHoldsFour() {
    for (int right = 1; right <= 4; right++) {
      HashedDirectory x = two(16, 5 - right, 48, right);
      dueTree("of the root", x, 2, 1, 0);
      dueLeaf(x, 48, 1, right);
      dueLeaf(x, 16, 1, 5 - right);
    }
    HashedDirectory x = two(32, 5, 48, 0);
    dueTree("of five on one side", x, 7, 6, 0);
    dueLeaf(x, 48, 2, 0);
  }

  /** "and has a depth less than 6": at the depth 5 it is split, at 6 it is not. */
  private static void noLeafIsDeeperThanSix() {
    HashedDirectory x = two(62, 2, 63, 2);
    Check.add(x, Samples.namesWithHash(62, 3)[2]);
    dueTree("of 62 and 63", x, 7, 6, 0);
    dueLeaf(x, 62, 6, 3);
    dueLeaf(x, 63, 6, 2);
    dueLeaf(x, 61, 5, 0);
    String[] more = Samples.namesWithHash(63, 5);
    Check.add(x, more[2]);
    Check.add(x, more[3]);
    dueLeaf(x, 63, 6, 4);
    Check.add(x, more[4]);
    dueTree("of five at the depth 6", x, 7, 6, 0);
    dueLeaf(x, 63, 6, 5);
  }

  /** The largest leaf of all is read, counted and emptied as any other. */
  private static void fortyEntriesOfOneHash() {
    HashedDirectory x = new HashedDirectory();
    Samples.addAll(x, Samples.namesWithHash(21, 40));
    dueTree("of 40 entries", x, 7, 6, 0);
    dueLeaf(x, 21, 6, 40);
    dueLeaf(x, 20, 6, 0);
    x.open(0);
    Check.due("readLeaf(0)", x.readLeaf(0), 40);
    Check.due("position(0)", x.position(0), 21039);
    for (int id = 0; id < 37; id++) {
      x.remove(id);
    }
    dueTree("of three entries", x, 7, 6, 0);
    x.remove(37);
    dueTree("of two entries", x, 1, 6, 6);
    dueLeaf(x, 21, 0, 2);
  }

  /** "and both together hold at most 2 entries": at each depth, and in both orders of the two. */
  private static void twoOfTwoSiblingsMergeAndThreeDoNot() {
    for (int depth = 1; depth <= 6; depth++) {
      int left = (64 >> depth) - 1;
      mergeDownTo(two(left, 4, left + 1, 1), depth);
      mergeDownTo(two(left + 1, 4, left, 1), depth);
    }
  }

  /** The ids 0 to 3 are in one leaf, 4 is in its sibling. */
  private static void mergeDownTo(HashedDirectory x, int depth) {
    x.remove(0);
    x.remove(1);
    dueTree("of two and one", x, depth + 1, depth, 0);
    x.remove(2);
    dueTree("of one and one", x, 1, depth, depth);
    dueLeaf(x, 0, 0, 2);
    dueLeaf(x, 63, 0, 2);
  }

  /** The leaf that changes becomes empty first, and its sibling is where the two are. */
  private static void twoOfOneSiblingMerge() {
    for (int depth = 1; depth <= 6; depth++) {
      int left = (64 >> depth) - 1;
      HashedDirectory x = two(left, 4, left + 1, 1);
      x.remove(4);
      dueTree("of four and none", x, depth + 1, depth, 0);
      x.remove(0);
      dueTree("of three and none", x, depth + 1, depth, 0);
      x.remove(1);
      dueTree("of two and none", x, 1, depth, depth);
      dueLeaf(x, left, 0, 2);
    }
  }

  private static void twoOfTheOtherSiblingMerge() {
    for (int depth = 1; depth <= 6; depth++) {
      int left = (64 >> depth) - 1;
      HashedDirectory x = two(left, 4, left + 1, 2);
      x.remove(0);
      x.remove(1);
      x.remove(2);
      dueTree("of one and two", x, depth + 1, depth, 0);
      x.remove(3);
      dueTree("of none and two", x, 1, depth, depth);
      dueLeaf(x, left + 1, 0, 2);
    }
  }

  /** One entry on the left; on the right "a" to "e", in the leaves of 32 to 39 and of 40 to 47. */
  private static HashedDirectory oneAndFive() {
    HashedDirectory x = Check.with("al", "a", "b", "c", "d", "e");
    dueTree("of one and five", x, 4, 3, 0);
    return x;
  }

  /** "this is the leaf that has changed last then": two merges, and the third would hold three. */
  private static void mergesGoOnFromTheLeafThatChangedLast() {
    HashedDirectory x = oneAndFive();
    x.remove(1);
    x.remove(2);
    dueTree("of one and three", x, 4, 3, 0);
    x.remove(3);
    dueTree("of one and two", x, 2, 3, 2);
    dueLeaf(x, 0, 1, 1);
    dueLeaf(x, 63, 1, 2);
    x.remove(0);
    dueTree("of none and two", x, 1, 3, 3);
    x.undo();
    x.remove(4);
    dueTree("of one and one", x, 1, 3, 3);
  }

  /** "as long as the leaf that has changed last has a sibling that is also a leaf" */
  private static void aSiblingThatIsNoLeaf() {
    HashedDirectory x = oneAndFive();
    x.remove(1);
    x.remove(2);
    x.remove(0);
    dueTree("of none and three", x, 4, 3, 0);
    dueLeaf(x, 0, 1, 0);
    x.remove(3);
    dueTree("of none and two", x, 1, 3, 3);
  }

  /** The root is a leaf without a sibling, with four entries and with fewer. */
  private static void theRootHasNoSibling() {
    HashedDirectory x = two(31, 2, 32, 2);
    for (int left = 3; left >= 0; left--) {
      Check.due("remove()", x.remove(left), left);
      dueTree("of the root", x, 1, 0, 0);
      dueLeaf(x, 31, 0, left);
    }
  }

  /** Leaves are merged "when an entry is removed": empty siblings of a split stay. */
  private static void addingNeverMerges() {
    HashedDirectory x = two(32, 4, 33, 1);
    dueTree("of 32 and 33", x, 7, 6, 0);
    dueLeaf(x, 34, 5, 0);
    dueLeaf(x, 0, 1, 0);
    Check.add(x, "al");
    dueTree("of one more", x, 7, 6, 0);
    dueLeaf(x, 0, 1, 1);
  }

  /** Terms 4: "the entry is removed, and then an entry ... is made": two are left in between. */
  private static void aRenameMergesFirst() {
    HashedDirectory x = Check.with("a", "b", "c", "d", "e");
    x.remove(0);
    x.remove(1);
    dueTree("of three entries", x, 4, 3, 0);
    Check.type(x, "f");
    Check.due("rename(4)", x.rename(4), 5);
    dueTree("behind rename()", x, 1, 3, 3);
    dueLeaf(x, 41, 0, 3);
    HashedDirectory y = Check.with("a", "b", "c", "d", "e");
    Check.run(y, "-a;-b;e=f");
    dueTree("behind the same text", y, 1, 3, 3);
  }

  /** "e" goes over to the leaf of 32 to 39, which holds four; its own leaf stays, empty. */
  private static void aRenameSplitsNext() {
    String fifth = Samples.nameWithHash(32);
    HashedDirectory x = Check.with("a", "b", "c", "d", "e");
    Check.type(x, fifth);
    x.rename(4);
    dueTree("behind rename()", x, 5, 4, 0);
    dueLeaf(x, 32, 4, 1);
    dueLeaf(x, 36, 4, 4);
    dueLeaf(x, 40, 3, 0);
  }

  /** Promise 29: the fewest and the most entries for each leaf, and quotients that are rounded. */
  private static void theMeanOfNoEntriesAndOfForty() {
    HashedDirectory x = new HashedDirectory();
    Check.due("meanLeafSize() of no entries", x.meanLeafSize(), 0.0f);
    Check.add(x, "a");
    Check.due("meanLeafSize() of one entry", x.meanLeafSize(), 1.0f);
    HashedDirectory y = new HashedDirectory();
    Samples.addAll(y, Samples.namesWithHash(21, 40));
    Check.due("meanLeafSize() of 40 entries", y.meanLeafSize(), 5.714286f);
    HashedDirectory z = two(32, 4, 33, 1);
    Check.due("meanLeafSize() of five entries", z.meanLeafSize(), 0.71428573f);
  }

  /** Promise 30: of the fourth and the fifth of a leaf, and of those at the depths 5 and 6. */
  private static void leavesIfAFifthWasAdded() {
    String[] names = Samples.namesWithHash(31, 6);
    HashedDirectory x = new HashedDirectory();
    int[] leaves = {1, 1, 1, 1, 7, 7};
    for (int i = 0; i < names.length; i++) {
      Check.type(x, names[i]);
      Check.due("leavesIfAdded() of entry " + i, x.leavesIfAdded(), leaves[i]);
      Check.due("textLength() behind it", x.textLength(), names[i].length());
      x.add();
      Check.due("leaves() of entry " + i, x.leaves(), leaves[i]);
    }
    HashedDirectory y = two(31, 4, 32, 1);
    Check.type(y, Samples.namesWithHash(32, 2)[1]);
    Check.due("leavesIfAdded() of a leaf with room", y.leavesIfAdded(), 2);
    Check.type(y, Samples.nameWithHash(15));
    Check.due("leavesIfAdded() of one split", y.leavesIfAdded(), 3);
    Check.type(y, Samples.nameWithHash(30));
    Check.due("leavesIfAdded() down to 30 and 31", y.leavesIfAdded(), 7);
    Check.due("leaves() still", y.leaves(), 2);
  }

  /** Promises 25 and 26: "0 to 63", while both ends hold entries. */
  private static void hashesOfTheTree() {
    HashedDirectory x = two(0, 4, 63, 2);
    dueLeaf(x, 0, 1, 4);
    dueLeaf(x, 63, 1, 2);
    for (int hash : new int[] {-1, 64}) {
      Check.due("depthOf(" + hash + ")", Check.answer(() -> x.depthOf(hash)), Check.INDEX);
      Check.due("leafSize(" + hash + ")", Check.answer(() -> x.leafSize(hash)), Check.INDEX);
    }
  }
}
