/** Promises 24 to 30, and what adding, removing and renaming do to the tree. */
public final class TreeTest {
  private static final Class<?> INDEX = IndexOutOfBoundsException.class;
  private static final Class<?> ARGUMENT = IllegalArgumentException.class;
  private static final Class<?> STATE = IllegalStateException.class;

  private TreeTest() {}

  public static void main(String[] args) {
    promise24Leaves();
    promise25DepthOf();
    promise26LeafSize();
    promise27Splits();
    promise27SplitsEndAtDepthSix();
    promise27SplitsReachBothEnds();
    promise28Merges();
    promise28NoMergeOfThree();
    promise28MergesOfRename();
    promise29MeanLeafSize();
    promise30LeavesIfAdded();
    promise30LeavesIfAddedWrong();
    Check.finish("TreeTest");
  }

  /**
   * "a" to "e" have the hashes 36 to 40: the root splits, then the leaf of 32 to 63, then that of
   * 32 to 47 into those of 32 to 39 and of 40 to 47.
   */
  private static HashedDirectory grown() {
    return Check.with("a", "b", "c", "d", "e");
  }

  private static void promise24Leaves() {
    HashedDirectory x = Check.with("a", "b", "c", "d");
    Check.due("leaves() of four entries", x.leaves(), 1);
    Check.add(x, "e");
    Check.due("leaves() of five entries", x.leaves(), 4);
    x.undo();
    Check.due("leaves() behind undo()", x.leaves(), 1);
  }

  private static void promise25DepthOf() {
    HashedDirectory x = grown();
    int[] hashes = {0, 31, 32, 36, 39, 40, 47, 48, 63};
    int[] depths = {1, 1, 3, 3, 3, 3, 3, 2, 2};
    for (int i = 0; i < hashes.length; i++) {
      Check.due("depthOf(" + hashes[i] + ")", x.depthOf(hashes[i]), depths[i]);
    }
    Check.dueThrow(x, "depthOf(-1)", INDEX, () -> x.depthOf(-1));
    Check.dueThrow(x, "depthOf(64)", INDEX, () -> x.depthOf(64));
    Check.dueThrow(x, "depthOf(MAX_VALUE)", INDEX, () -> x.depthOf(Integer.MAX_VALUE));
  }

  private static void promise26LeafSize() {
    HashedDirectory x = grown();
    int[] hashes = {0, 31, 32, 36, 39, 40, 47, 48, 63};
    int[] sizes = {0, 0, 4, 4, 4, 1, 1, 0, 0};
    for (int i = 0; i < hashes.length; i++) {
      Check.due("leafSize(" + hashes[i] + ")", x.leafSize(hashes[i]), sizes[i]);
    }
    Check.dueThrow(x, "leafSize(-1)", INDEX, () -> x.leafSize(-1));
    Check.dueThrow(x, "leafSize(64)", INDEX, () -> x.leafSize(64));
    Check.dueThrow(x, "leafSize(MIN_VALUE)", INDEX, () -> x.leafSize(Integer.MIN_VALUE));
  }

  private static void promise27Splits() {
    HashedDirectory x = Check.with("a", "b", "c", "d");
    Check.due("splits() of four entries", x.splits(), 0);
    Check.add(x, "e");
    Check.due("splits() of five entries", x.splits(), 3);
    Check.run(x, "-a;-b;-c;-d;-e");
    Check.due("splits() of an empty tree again", x.splits(), 3);
    Check.run(x, "+a;+b;+c;+d;+e");
    Check.due("splits() once more", x.splits(), 6);
    x.undo();
    Check.due("splits() behind undo()", x.splits(), 3);
  }

  private static void promise27SplitsEndAtDepthSix() {
    HashedDirectory x = Check.with(Samples.namesWithHash(21, 7));
    Check.due("splits()", x.splits(), 6);
    Check.due("leaves()", x.leaves(), 7);
    Check.due("depthOf(21)", x.depthOf(21), 6);
    Check.due("leafSize(21)", x.leafSize(21), 7);
    Check.due("depthOf(20)", x.depthOf(20), 6);
    Check.due("leafSize(20)", x.leafSize(20), 0);
    Check.due("depthOf(22)", x.depthOf(22), 5);
    Check.due("depthOf(63)", x.depthOf(63), 1);
  }

  private static void promise27SplitsReachBothEnds() {
    int[] hashes = {0, 63};
    for (int hash : hashes) {
      int other = 63 - hash;
      String[] names = Samples.namesWithHash(hash, 4);
      HashedDirectory x = Check.with(names);
      Check.add(x, Samples.nameWithHash(other));
      Check.due("splits() of the root", x.splits(), 1);
      Check.due("depthOf(" + hash + ")", x.depthOf(hash), 1);
      Check.due("depthOf(" + other + ")", x.depthOf(other), 1);
      Check.due("leafSize(" + hash + ")", x.leafSize(hash), 4);
      Check.due("leafSize(" + other + ")", x.leafSize(other), 1);
      Check.run(x, "-" + names[0] + ";-" + names[1] + ";-" + names[2]);
      Check.due("merges() to the root", x.merges(), 1);
      Check.due("depthOf(" + hash + ")", x.depthOf(hash), 0);
      Check.due("depthOf(" + other + ")", x.depthOf(other), 0);
      Check.due("leafSize(" + hash + ")", x.leafSize(hash), 2);
    }
  }

  private static void promise28Merges() {
    HashedDirectory x = grown();
    x.remove(4);
    x.remove(3);
    Check.due("merges() of three entries", x.merges(), 0);
    Check.due("leaves() of three entries", x.leaves(), 4);
    x.remove(2);
    Check.due("merges() of two entries", x.merges(), 3);
    Check.due("leaves() of two entries", x.leaves(), 1);
    Check.due("depthOf(36)", x.depthOf(36), 0);
    Check.due("leafSize(0)", x.leafSize(0), 2);
    x.remove(1);
    Check.due("merges() of a root", x.merges(), 3);
    x.undo();
    x.undo();
    Check.due("merges() behind undo()", x.merges(), 0);
    Check.due("leaves() behind undo()", x.leaves(), 4);
  }

  /** The two halves of the root: three entries on the left, four and then fewer on the right. */
  private static void promise28NoMergeOfThree() {
    HashedDirectory x = Check.with(
        Samples.nameWithHash(0), Samples.nameWithHash(1), Samples.nameWithHash(2));
    Check.run(x, "+a;+b;+c;+d;+e");
    Check.due("leaves()", x.leaves(), 4);
    Check.run(x, "-a;-b;-c");
    Check.due("merges() of the right half", x.merges(), 2);
    Check.due("depthOf(36)", x.depthOf(36), 1);
    x.remove(0);
    x.remove(1);
    Check.due("merges() of one and two", x.merges(), 2);
    Check.due("leaves() of one and two", x.leaves(), 2);
    x.remove(2);
    Check.due("merges() of none and two", x.merges(), 3);
    Check.due("leaves() of none and two", x.leaves(), 1);
  }

  /** The entry is removed first, so a leaf may be merged and then split again. */
  private static void promise28MergesOfRename() {
    String[] low = Samples.namesWithHash(0, 5);
    HashedDirectory x = Check.with(low[0], low[1], low[2], low[3], low[4]);
    Check.run(x, "-" + low[0] + ";-" + low[1]);
    Check.due("leaves()", x.leaves(), 7);
    Check.type(x, "a");
    Check.due("rename(2)", x.rename(2), 5);
    Check.due("merges() of a rename", x.merges(), 6);
    Check.due("leaves() behind a rename", x.leaves(), 1);
    HashedDirectory y = grown();
    Check.run(y, "e=f");
    Check.due("merges() of a rename among five", y.merges(), 0);
    Check.due("splits() of a rename among five", y.splits(), 3);
    Check.due("leafSize(41)", y.leafSize(41), 1);
  }

  private static void promise29MeanLeafSize() {
    HashedDirectory x = Check.with("a", "b", "c");
    Check.due("meanLeafSize()", x.meanLeafSize(), 3.0f);
    Check.run(x, "+d;+e");
    Check.due("meanLeafSize()", x.meanLeafSize(), 1.25f);
    HashedDirectory y = Check.with(Samples.namesWithHash(21, 5));
    Check.due("meanLeafSize()", y.meanLeafSize(), 5.0f / 7.0f);
    Check.due("meanLeafSize() saves nothing", y.savedStates(), 5);
  }

  private static void promise30LeavesIfAdded() {
    HashedDirectory x = Check.with("a", "b", "c");
    Check.type(x, "d");
    Check.due("leavesIfAdded() of the fourth", x.leavesIfAdded(), 1);
    Check.add(x, "d");
    Check.type(x, "e");
    String before = Check.look(x);
    Check.due("leavesIfAdded() of the fifth", x.leavesIfAdded(), 4);
    Check.due("a look behind leavesIfAdded()", Check.look(x), before);
    Check.due("add()", x.add(), 4);
    Check.due("leaves() then", x.leaves(), 4);
    Check.type(x, Samples.nameWithHash(32));
    Check.due("leavesIfAdded() of the fifth of a leaf", x.leavesIfAdded(), 5);
    Check.type(x, "f");
    Check.due("leavesIfAdded() of a leaf with room", x.leavesIfAdded(), 4);
    String[] same = Samples.namesWithHash(21, 6);
    HashedDirectory y = Check.with(same[0], same[1], same[2], same[3]);
    Check.type(y, same[4]);
    Check.due("leavesIfAdded() down to the depth 6", y.leavesIfAdded(), 7);
    y.add();
    Check.type(y, same[5]);
    Check.due("leavesIfAdded() at the depth 6", y.leavesIfAdded(), 7);
  }

  private static void promise30LeavesIfAddedWrong() {
    HashedDirectory x = Check.with("a");
    String[] noNames = {"", "abcdefg", "A", "+a", "a;", "a b", "1"};
    for (String text : noNames) {
      Check.type(x, text);
      Check.dueThrow(x, "leavesIfAdded() of '" + text + "'", ARGUMENT, x::leavesIfAdded);
    }
    Check.type(x, "a");
    Check.dueThrow(x, "leavesIfAdded() of a taken name", STATE, x::leavesIfAdded);
  }
}
