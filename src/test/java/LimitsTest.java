/** The limits of 40 entries and of 1000 ids (promises 2, 4, 13 and 30). */
public final class LimitsTest {
  private static final Class<?> INDEX = IndexOutOfBoundsException.class;
  private static final Class<?> ARGUMENT = IllegalArgumentException.class;
  private static final Class<?> STATE = IllegalStateException.class;
  /** Twenty commands, the most renamings that a text holds. */
  private static final String RENAMINGS = "a=b;b=a;".repeat(10).substring(0, 79);

  private LimitsTest() {}

  public static void main(String[] args) {
    fortyEntries();
    fortyEntriesInText();
    fullLeaf();
    thousandIds();
    thousandIdsAreUndone();
    thousandIdsOfAdd();
    Check.finish("LimitsTest");
  }

  /** Answers adds of names of one letter and of two, as many as asked for. */
  private static String adds(int from, int to) {
    StringBuilder text = new StringBuilder();
    for (int i = from; i < to; i++) {
      text.append(i == from ? "+" : ";+").append(name(i));
    }
    return text.toString();
  }

  private static String name(int number) {
    String letter = String.valueOf((char) ('a' + number % 26));
    return number < 26 ? letter : "b" + letter;
  }

  private static HashedDirectory full() {
    HashedDirectory x = new HashedDirectory();
    Check.due("runText() of 26 adds", Check.run(x, adds(0, 26)), 26);
    Check.due("runText() of 14 adds", Check.run(x, adds(26, 40)), 14);
    Check.due("entries()", x.entries(), 40);
    return x;
  }

  private static void fortyEntries() {
    HashedDirectory x = full();
    Check.due("idAt(39)", x.idAt(39) >= 0, true);
    Check.due("idAt(40)", x.idAt(40), -2);
    Check.type(x, "zz");
    Check.due("add() to 40 entries", Check.answer(x::add), "throws.IllegalStateException");
    Check.due("textLength() behind it", x.textLength(), 2);
    Check.due("leavesIfAdded()", Check.answer(x::leavesIfAdded), "throws.IllegalStateException");
    Check.due("rename(0) of 40 entries", x.rename(0), 40);
    Check.due("entries() behind rename()", x.entries(), 40);
    Check.type(x, "Z");
    Check.due("add() of no name", Check.answer(x::add), "throws.IllegalArgumentException");
    Check.due("leavesIfAdded() of no name", Check.answer(x::leavesIfAdded),
        "throws.IllegalArgumentException");
    Check.due("remove(40)", x.remove(40), 39);
    Check.due("add() to 39 entries", Check.add(x, "zz"), 41);
    Check.due("savedStates()", x.savedStates(), 5);
    Check.due("entries()", x.entries(), 40);
    x.undo();
    Check.due("entries() behind undo()", x.entries(), 39);
  }

  private static void fortyEntriesInText() {
    HashedDirectory x = full();
    Check.due("runText() of an add", Check.run(x, "+zz"), 0);
    Check.due("runText() of a rename", Check.run(x, "a=zz;+q"), 1);
    Check.due("runText() of a remove", Check.run(x, "-zz;+zz;+a"), 2);
    Check.due("entries()", x.entries(), 40);
    HashedDirectory y = new HashedDirectory();
    Check.run(y, adds(0, 26));
    Check.run(y, adds(26, 38));
    Check.due("runText() up to the limit", Check.run(y, "+za;+zb;+zc;+zd"), 2);
  }

  /** Ten names of each of four neighbouring hashes: leaves of the depth 6 hold more than four. */
  private static void fullLeaf() {
    HashedDirectory x = new HashedDirectory();
    int made = 0;
    for (int hash = 8; hash < 12; hash++) {
      for (String name : TreeTest.namesWithHash(hash, 10)) {
        Check.due("add() of " + name, Check.add(x, name), made++);
      }
    }
    Check.due("leaves()", x.leaves(), 8);
    Check.due("splits()", x.splits(), 7);
    x.open(0);
    for (int hash = 8; hash < 12; hash++) {
      Check.due("depthOf()", x.depthOf(hash), 6);
      Check.due("leafSize()", x.leafSize(hash), 10);
      Check.due("withHash()", x.withHash(hash), 10);
      Check.due("readLeaf(0)", x.readLeaf(0), 10);
    }
    Check.due("readLeaf(0) at the end", x.readLeaf(0), 0);
    Check.due("position(0)", x.position(0), 11039);
  }

  /** "a" has the id 0; the entry is renamed until the next id would be 1000. */
  private static HashedDirectory spent() {
    HashedDirectory x = Check.with("a");
    Check.type(x, RENAMINGS);
    for (int i = 0; i < 49; i++) {
      Check.due("runText() of 20 renamings", x.runText(), 20);
    }
    Check.due("the last id so far", x.idAt(0), 980);
    Check.due("runText() up to the limit", x.runText(), 19);
    Check.due("the last id", x.idAt(0), 999);
    return x;
  }

  private static void thousandIds() {
    HashedDirectory x = spent();
    Check.due("withHash(37) of the key 37999", x.withHash(37), 1);
    Check.due("withHash(38) of the key 37999", x.withHash(38), 0);
    x.open(0);
    Check.due("next(0)", x.next(0), 999);
    Check.due("position(0)", x.position(0), 37999);
    Check.due("next(0) at the end", x.next(0), -2);
    Check.type(x, "q");
    Check.dueThrow(x, "add() behind 1000 ids", STATE, x::add);
    Check.dueThrow(x, "rename(999) behind 1000 ids", STATE, () -> x.rename(999));
    Check.dueThrow(x, "rename(0) behind 1000 ids", INDEX, () -> x.rename(0));
    Check.dueThrow(x, "leavesIfAdded() behind 1000 ids", STATE, x::leavesIfAdded);
    Check.type(x, "Q");
    Check.dueThrow(x, "add() of no name", ARGUMENT, x::add);
    Check.dueThrow(x, "rename(999) to no name", ARGUMENT, () -> x.rename(999));
    Check.dueThrow(x, "leavesIfAdded() of no name", ARGUMENT, x::leavesIfAdded);
    Check.due("runText() of an add", Check.run(x, "+q"), 0);
    Check.due("runText() of a rename", Check.run(x, "b=q"), 0);
    Check.due("runText() of a remove", Check.run(x, "-b;+q"), 1);
    Check.due("entries()", x.entries(), 0);
  }

  private static void thousandIdsAreUndone() {
    HashedDirectory x = spent();
    x.undo();
    Check.due("the id behind undo()", x.idAt(0), 980);
    Check.due("an id that is given anew", Check.add(x, "q"), 981);
  }

  /** The highest key of all: the id 999 and the hash 63. */
  private static void thousandIdsOfAdd() {
    HashedDirectory x = spent();
    x.undo();
    Check.due("runText() of 18 renamings", Check.run(x, RENAMINGS.substring(0, 71)), 18);
    String last = TreeTest.nameWithHash(63);
    Check.due("add() of the last id", Check.add(x, last), 999);
    Check.due("withHash(63)", x.withHash(63), 1);
    x.open(0);
    x.seek(0, 63998);
    Check.due("remaining(0)", x.remaining(0), 1);
    Check.due("next(0)", x.next(0), 999);
    Check.due("position(0)", x.position(0), 63999);
    Check.due("next(0) at the end", x.next(0), -2);
    Check.due("remove(999)", x.remove(999), 1);
  }
}
