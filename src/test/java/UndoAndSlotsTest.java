/** Promises 14 to 16 and 34: saved states and slots. */
public final class UndoAndSlotsTest {
  private static final Class<?> INDEX = IndexOutOfBoundsException.class;
  private static final Class<?> STATE = IllegalStateException.class;
  private static final int[] NO_SLOTS = {-1, 2, Integer.MIN_VALUE, Integer.MAX_VALUE};

  private UndoAndSlotsTest() {}

  public static void main(String[] args) {
    promise14Undo();
    promise14UndoOfAllState();
    promise14UndoKeepsSlotsAndText();
    promise15Save();
    promise15SaveWrong();
    promise16Restore();
    promise16RestoreWrong();
    promise34SavedStates();
    queriesSaveNothing();
    Check.finish("UndoAndSlotsTest");
  }

  private static void promise14Undo() {
    HashedDirectory x = Check.with("a", "b", "c", "d", "e", "f", "g");
    Check.due("savedStates()", x.savedStates(), 6);
    for (int left = 5; left >= 0; left--) {
      Check.due("undo()", x.undo(), left);
      Check.due("entries() behind undo()", x.entries(), left + 1);
    }
    Check.due("the seventh state is gone", Check.ids(x), "0");
    Check.dueThrow(x, "undo() of no saved state", STATE, x::undo);
    Check.add(x, "z");
    Check.due("undo() behind a new call", x.undo(), 0);
    Check.due("the ids", Check.ids(x), "0");
  }

  private static void promise14UndoOfAllState() {
    HashedDirectory x = Check.with("a", "b", "c", "d", "e");
    x.open(1);
    x.next(1);
    String before = Check.look(x);
    Check.run(x, "-c;-d;-e;a=z;+q");
    x.readLeaf(1);
    x.close(1);
    x.open(2);
    for (int i = 0; i < 4; i++) {
      x.undo();
    }
    x.clearText();
    Check.due("position(1)", x.position(1), 36000);
    Check.due("savedStates()", x.savedStates(), 2);
    HashedDirectory y = Check.with("a", "b", "c", "d", "e");
    y.open(1);
    y.next(1);
    Check.due("the look is that of the same calls", Check.look(y), before);
    y.undo();
    x.undo();
    Check.due("position(1) behind one more", x.position(1), y.position(1));
    Check.due("depthOf(36)", x.depthOf(36), 3);
    Check.due("splits()", x.splits(), 3);
    Check.due("merges()", x.merges(), 0);
    Check.due("the next id", Check.add(x, "f"), 5);
  }

  private static void promise14UndoKeepsSlotsAndText() {
    HashedDirectory x = Check.with("a");
    x.save(1);
    Check.add(x, "b");
    x.save(0);
    Check.type(x, "abc");
    x.undo();
    x.undo();
    Check.due("textLength() behind undo()", x.textLength(), 3);
    Check.due("restore(0) behind undo()", x.restore(0), 2);
    Check.due("restore(1) behind undo()", x.restore(1), 1);
  }

  private static void promise15Save() {
    HashedDirectory x = Check.with("a", "b");
    x.open(0);
    Check.type(x, "c");
    String before = Check.look(x);
    Check.due("save(0)", x.save(0), 2);
    Check.due("a look behind save(0)", Check.look(x), before);
    x.add();
    x.next(0);
    Check.due("save(1)", x.save(1), 3);
    Check.due("restore(0)", x.restore(0), 2);
    Check.due("position(0)", x.position(0), -1);
    Check.due("restore(1)", x.restore(1), 3);
    Check.due("position(0)", x.position(0), 36000);
    x.remove(0);
    Check.due("save(1) again", x.save(1), 2);
    Check.add(x, "q");
    Check.due("restore(1) of what replaced it", x.restore(1), 2);
    Check.due("the ids", Check.ids(x), "1 2");
    Check.due("restore(0) of the other slot", x.restore(0), 2);
    Check.due("the ids", Check.ids(x), "0 1");
    HashedDirectory y = new HashedDirectory();
    Check.due("save(1) of an empty directory", y.save(1), 0);
    Check.add(y, "a");
    Check.due("restore(1) of an empty directory", y.restore(1), 0);
  }

  private static void promise15SaveWrong() {
    HashedDirectory x = Check.with("a");
    for (int slot : NO_SLOTS) {
      Check.dueThrow(x, "save(" + slot + ")", INDEX, () -> x.save(slot));
    }
    Check.dueThrow(x, "restore(0) behind them", STATE, () -> x.restore(0));
    Check.dueThrow(x, "restore(1) behind them", STATE, () -> x.restore(1));
  }

  private static void promise16Restore() {
    HashedDirectory x = Check.with("a", "b", "c", "d", "e");
    x.open(3);
    x.save(0);
    Check.run(x, "-a;-b;-c");
    x.close(3);
    Check.due("savedStates()", x.savedStates(), 6);
    Check.due("restore(0)", x.restore(0), 5);
    Check.due("leaves()", x.leaves(), 4);
    Check.due("merges()", x.merges(), 0);
    Check.due("position(3)", x.position(3), -1);
    Check.due("the next id", Check.add(x, "f"), 5);
    Check.due("restore(0): the slot keeps its copy", x.restore(0), 5);
    Check.due("restore(0) of the same state", x.restore(0), 5);
    Check.due("undo()", x.undo(), 5);
    Check.due("entries() of the same state", x.entries(), 5);
    Check.due("undo()", x.undo(), 4);
    Check.due("entries() behind undo()", x.entries(), 6);
    x.undo();
    Check.due("undo() of the first restore(0)", x.undo(), 2);
    Check.due("entries() behind undo()", x.entries(), 2);
    Check.due("merges() behind undo()", x.merges(), 3);
    Check.due("position(3) behind undo()", x.position(3), -2);
  }

  private static void promise16RestoreWrong() {
    HashedDirectory x = Check.with("a");
    x.save(0);
    for (int slot : NO_SLOTS) {
      Check.dueThrow(x, "restore(" + slot + ")", INDEX, () -> x.restore(slot));
    }
    Check.dueThrow(x, "restore(1) of an empty slot", STATE, () -> x.restore(1));
    Check.due("restore(0) of the other slot", x.restore(0), 1);
  }

  private static void promise34SavedStates() {
    HashedDirectory x = new HashedDirectory();
    for (int i = 1; i <= 8; i++) {
      x.open(0);
      Check.due("savedStates()", x.savedStates(), Math.min(i, 6));
    }
    x.undo();
    Check.due("savedStates() behind undo()", x.savedStates(), 5);
    x.save(0);
    Check.due("savedStates() behind save()", x.savedStates(), 5);
    x.restore(0);
    Check.due("savedStates() behind restore()", x.savedStates(), 6);
  }

  private static void queriesSaveNothing() {
    HashedDirectory x = Check.with("a", "b");
    x.open(0);
    Check.type(x, "c");
    String before = Check.look(x);
    x.find();
    x.hashOf(0);
    x.letterOf(0, 0);
    x.withHash(36);
    x.depthOf(36);
    x.leafSize(36);
    x.meanLeafSize();
    x.leavesIfAdded();
    x.peek(0);
    x.remaining(0);
    Check.due("a look behind queries", Check.look(x), before);
  }
}
