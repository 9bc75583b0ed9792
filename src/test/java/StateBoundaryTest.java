/**
 * Terms 6, promises 14 to 16 and 34, and the 512 calls of an object: what is saved, how often, and
 * what is not part of the state.
 */
public final class StateBoundaryTest {
  private interface Use {
    Object on(HashedDirectory x);
  }

  /** Each changes the state of small(), which has saved two states and typed "c". */
  private static final Use[] UNDOABLE = {
    HashedDirectory::add, x -> x.remove(0), x -> x.rename(1), x -> x.open(1), x -> x.close(0),
    x -> x.next(0), x -> x.readLeaf(0), x -> x.seek(0, 5), x -> x.restore(0)
  };
  private static final Use[] NOT_UNDOABLE = {
    x -> x.appendText('a'), HashedDirectory::clearText, HashedDirectory::errorPosition,
    x -> x.save(0), x -> x.save(1), HashedDirectory::entries, x -> x.idAt(0),
    HashedDirectory::find, HashedDirectory::hashOfText, x -> x.hashOf(0), x -> x.letterOf(0, 0),
    x -> x.withHash(36), HashedDirectory::leaves, x -> x.depthOf(36), x -> x.leafSize(36),
    HashedDirectory::splits, HashedDirectory::merges, HashedDirectory::meanLeafSize,
    HashedDirectory::leavesIfAdded, x -> x.position(0), x -> x.peek(0), x -> x.remaining(0),
    HashedDirectory::savedStates, HashedDirectory::textLength
  };

  private StateBoundaryTest() {}

  public static void main(String[] args) {
    noStateIsSavedAtFirst();
    sixStatesAreSaved();
    aSeventhStateDiscardsTheOldest();
    savedStatesCountToSixAndBack();
    undoableCallsSaveOneState();
    otherCallsSaveNone();
    callsThatChangeNothingSaveAState();
    undoIsNotUndone();
    slotsAreZeroAndOne();
    slotsAreEmptyAtFirst();
    savingReplacesWhatTheSlotHeld();
    aSlotKeepsItsCopy();
    theEntriesArePartOfTheState();
    theTreeIsPartOfTheState();
    theNumberOfIdsIsPartOfTheState();
    theThousandthIdIsGivenAgainBehindUndo();
    theReadersArePartOfTheState();
    theCountsArePartOfTheState();
    theTextIsNotPartOfTheState();
    theSavedStatesAreNotPartOfTheState();
    theSlotsAreNotPartOfTheState();
    aFullStateIsSaved();
    fiveHundredTwelveCalls();
    fiveHundredTwelveDearCalls();
    theConstants();
    Check.finish("StateBoundaryTest");
  }

  private static HashedDirectory small() {
    HashedDirectory x = new HashedDirectory();
    x.save(0);
    Samples.addAll(x, "a", "b");
    x.open(0);
    Check.type(x, "c");
    return x;
  }

  /** Reader 0 is opened and sent to 1, 2, 3 and so on: each saved state has a position. */
  private static HashedDirectory sent(int calls) {
    HashedDirectory x = new HashedDirectory();
    x.open(0);
    for (int i = 1; i < calls; i++) {
      x.seek(0, i);
    }
    return x;
  }

  /** Promise 14: "if there is no saved state" */
  private static void noStateIsSavedAtFirst() {
    HashedDirectory x = new HashedDirectory();
    Check.due("savedStates() of a new object", x.savedStates(), 0);
    Check.due("undo() of a new object", Check.answer(x::undo), Check.STATE);
    x.open(0);
    Check.due("savedStates() of one call", x.savedStates(), 1);
    Check.due("undo() of one call", x.undo(), 0);
    Check.due("undo() once more", Check.answer(x::undo), Check.STATE);
  }

  /** "At most 6 states are saved": all of six calls are undone, up to the closed reader. */
  private static void sixStatesAreSaved() {
    HashedDirectory x = sent(6);
    Check.due("savedStates()", x.savedStates(), 6);
    int[] positions = {4, 3, 2, 1, -1, -2};
    for (int i = 0; i < 6; i++) {
      Check.due("undo()", x.undo(), 5 - i);
      Check.due("position(0)", x.position(0), positions[i]);
    }
    Check.due("undo() once more", Check.answer(x::undo), Check.STATE);
  }

  /** "when a seventh state is saved, the oldest saved state is discarded", and so the eighth. */
  private static void aSeventhStateDiscardsTheOldest() {
    for (int calls = 7; calls <= 20; calls++) {
      HashedDirectory x = sent(calls);
      Check.due("savedStates()", x.savedStates(), 6);
      for (int i = 0; i < 6; i++) {
        int position = calls - 2 - i;
        Check.due("undo()", x.undo(), 5 - i);
        Check.due("position(0)", x.position(0), position == 0 ? -1 : position);
      }
      Check.due("undo() of the seventh", Check.answer(x::undo), Check.STATE);
    }
  }

  private static void savedStatesCountToSixAndBack() {
    HashedDirectory x = new HashedDirectory();
    for (int calls = 1; calls <= 8; calls++) {
      x.open(0);
      Check.due("savedStates()", x.savedStates(), calls < 6 ? calls : 6);
    }
    for (int left = 5; left >= 3; left--) {
      x.undo();
      Check.due("savedStates() behind undo()", x.savedStates(), left);
    }
    for (int saved = 4; saved <= 8; saved++) {
      x.open(0);
      Check.due("savedStates()", x.savedStates(), saved < 6 ? saved : 6);
    }
  }

  /** "saves the state as it was before the call": one, and undo() brings all of it back. */
  private static void undoableCallsSaveOneState() {
    for (int i = 0; i < UNDOABLE.length; i++) {
      Use use = UNDOABLE[i];
      dueUndone("undoable call " + i, StateBoundaryTest::small, use);
    }
    dueUndone("runText()", () -> changed("+c;-a;b=d"), HashedDirectory::runText);
    dueUndone("runText() of splits", () -> changed("+c;+d;+e;+f"), HashedDirectory::runText);
  }

  private static HashedDirectory changed(String text) {
    HashedDirectory x = small();
    Check.type(x, text);
    return x;
  }

  private interface Setup {
    HashedDirectory make();
  }

  private static void dueUndone(String call, Setup setup, Use use) {
    for (Look.Part part : Look.PARTS) {
      HashedDirectory x = setup.make();
      HashedDirectory twin = setup.make();
      String answer = Check.answer(() -> use.on(x));
      Check.due(call + " throws", answer.startsWith("throws."), false);
      Check.due("savedStates() behind " + call, x.savedStates(), 3);
      Check.due("undo() of " + call, x.undo(), 2);
      if (x.textLength() == 0) {
        Check.type(x, "c");
      }
      Check.due("a look behind undo() of " + call, part.of(x), part.of(twin));
    }
  }

  /** Only a method that is marked "Undoable" saves the state. */
  private static void otherCallsSaveNone() {
    for (int i = 0; i < NOT_UNDOABLE.length; i++) {
      HashedDirectory x = small();
      Use use = NOT_UNDOABLE[i];
      String answer = Check.answer(() -> use.on(x));
      Check.due("call " + i + " throws", answer.startsWith("throws."), false);
      Check.due("savedStates() behind call " + i, x.savedStates(), 2);
    }
  }

  /** "(It is saved even if the call changes nothing.)" */
  private static void callsThatChangeNothingSaveAState() {
    Use[] calls = {
      x -> x.open(0), x -> x.seek(0, -1), x -> x.next(0), x -> x.readLeaf(0), x -> x.restore(0),
      x -> Check.run(x, "-a"), x -> Check.run(x, "a=b")
    };
    for (int i = 0; i < calls.length; i++) {
      HashedDirectory x = new HashedDirectory();
      x.open(0);
      x.save(0);
      Use use = calls[i];
      String before = Look.atReadersAndText(x);
      use.on(x);
      Check.due("savedStates() behind call " + i, x.savedStates(), 2);
      Check.due("undo()", x.undo(), 1);
      x.clearText();
      Check.due("a look behind undo()", Look.atReadersAndText(x), before);
      Check.due("undo() of open(0)", x.undo(), 0);
      Check.due("position(0)", x.position(0), -2);
    }
  }

  /** undo() is not marked "Undoable": a second one goes further back. */
  private static void undoIsNotUndone() {
    HashedDirectory x = Check.with("a", "b", "c");
    Check.due("undo()", x.undo(), 2);
    Check.due("undo()", x.undo(), 1);
    Check.due("the ids", Check.ids(x), "0");
    Check.add(x, "d");
    Check.due("savedStates()", x.savedStates(), 2);
    Check.due("undo()", x.undo(), 1);
    Check.due("the ids", Check.ids(x), "0");
  }

  /** "There are two slots, 0 and 1" */
  private static void slotsAreZeroAndOne() {
    HashedDirectory x = Check.with("a");
    for (int slot = -1; slot <= 2; slot++) {
      int number = slot;
      boolean is = slot == 0 || slot == 1;
      Check.due("save(" + slot + ")", Check.answer(() -> x.save(number)), is ? "1" : Check.INDEX);
      Check.due("restore(" + slot + ")", Check.answer(() -> x.restore(number)),
          is ? "1" : Check.INDEX);
    }
  }

  /** "which are empty at first": each of them until it is saved to itself. */
  private static void slotsAreEmptyAtFirst() {
    for (int slot = 0; slot < 2; slot++) {
      HashedDirectory x = Check.with("a");
      int empty = 1 - slot;
      int filled = slot;
      Check.due("restore()", Check.answer(() -> x.restore(filled)), Check.STATE);
      Check.due("save()", x.save(slot), 1);
      Check.due("restore() of the other", Check.answer(() -> x.restore(empty)), Check.STATE);
      Check.due("restore()", x.restore(slot), 1);
    }
    HashedDirectory y = new HashedDirectory();
    Check.due("save(0) of an empty directory", y.save(0), 0);
    Check.due("restore(0) of an empty directory", y.restore(0), 0);
  }

  /** Promise 15: "and replaces what the slot held" */
  private static void savingReplacesWhatTheSlotHeld() {
    HashedDirectory x = Check.with("a", "b");
    x.save(0);
    x.save(1);
    x.remove(0);
    Check.due("save(0) again", x.save(0), 1);
    Check.due("restore(1) of the other slot", x.restore(1), 2);
    Check.due("restore(0)", x.restore(0), 1);
    Check.due("the ids", Check.ids(x), "1");
  }

  /** Promise 16: "the slot keeps its copy", whatever becomes of the state. */
  private static void aSlotKeepsItsCopy() {
    HashedDirectory x = Check.with("a", "b");
    x.save(1);
    for (int i = 0; i < 3; i++) {
      Check.run(x, "-a;b=z;+c;+d;+e;+f");
      x.open(i);
      Check.due("restore(1)", x.restore(1), 2);
      Check.due("the ids", Check.ids(x), "0 1");
      Check.due("leaves()", x.leaves(), 1);
      Check.due("position()", x.position(i), -2);
      Check.due("the next id", Check.add(x, "q"), 2);
    }
  }

  private static void theEntriesArePartOfTheState() {
    HashedDirectory x = Check.with("abcdef", "b");
    x.save(0);
    Check.type(x, "zzzzzz");
    x.rename(0);
    x.restore(0);
    Check.due("the ids behind restore(0)", Check.ids(x), "0 1");
    Check.due("the name behind restore(0)", Check.nameOf(x, 0), "abcdef");
    x.undo();
    Check.due("the ids behind undo()", Check.ids(x), "1 2");
    Check.due("the name behind undo()", Check.nameOf(x, 2), "zzzzzz");
    x.undo();
    Check.due("the name behind undo()", Check.nameOf(x, 0), "abcdef");
  }

  /** Three entries are in four leaves here, and would be in one if they were added anew. */
  private static void theTreeIsPartOfTheState() {
    HashedDirectory x = Check.with("a", "b", "c", "d", "e");
    Check.run(x, "-a;-b");
    x.save(0);
    x.remove(2);
    Check.due("leaves() of two entries", x.leaves(), 1);
    x.undo();
    Check.due("leaves() behind undo()", x.leaves(), 4);
    Check.due("depthOf(36) behind undo()", x.depthOf(36), 3);
    Check.run(x, "-c;-d;-e");
    x.restore(0);
    Check.due("leaves() behind restore(0)", x.leaves(), 4);
    Check.due("leafSize(36) behind restore(0)", x.leafSize(36), 2);
    Check.due("leafSize(63) behind restore(0)", x.leafSize(63), 0);
  }

  private static void theNumberOfIdsIsPartOfTheState() {
    HashedDirectory x = Check.with("a");
    x.save(0);
    Check.due("the second id", Check.add(x, "b"), 1);
    x.undo();
    Check.due("the second id behind undo()", Check.add(x, "c"), 1);
    Check.due("the third id", Check.add(x, "d"), 2);
    x.restore(0);
    Check.due("the second id behind restore(0)", Check.add(x, "e"), 1);
  }

  private static void theThousandthIdIsGivenAgainBehindUndo() {
    HashedDirectory x = Samples.spent(999);
    x.save(0);
    Check.due("add() of the last id", Check.add(x, "q"), 999);
    Check.due("add() of one more", Check.answer(() -> Check.add(x, "r")), Check.STATE);
    x.undo();
    Check.due("add() behind undo()", x.add(), 999);
    x.restore(0);
    Check.due("add() behind restore(0)", Check.add(x, "s"), 999);
  }

  /** Open and closed ones, and their positions, of all four. */
  private static void theReadersArePartOfTheState() {
    HashedDirectory x = Check.with("a");
    x.open(0);
    x.open(1);
    x.seek(1, 63999);
    x.open(2);
    x.seek(2, 0);
    x.save(0);
    x.close(0);
    x.close(1);
    x.next(2);
    x.open(3);
    x.restore(0);
    duePositions(x, -1, 63999, 0, -2);
    x.undo();
    duePositions(x, -2, -2, 36000, -1);
    for (int i = 0; i < 4; i++) {
      x.undo();
    }
    duePositions(x, -1, 63999, 0, -2);
  }

  private static void duePositions(HashedDirectory x, int... positions) {
    for (int reader = 0; reader < 4; reader++) {
      Check.due("position(" + reader + ")", x.position(reader), positions[reader]);
    }
  }

  private static void theCountsArePartOfTheState() {
    HashedDirectory x = Check.with("a", "b", "c", "d", "e");
    x.save(0);
    Check.run(x, "-a;-b;-c");
    dueCounts("of three merges", x, 3, 3);
    x.undo();
    dueCounts("behind undo()", x, 3, 0);
    x.undo();
    dueCounts("behind undo() of the splits", x, 0, 0);
    x.restore(0);
    dueCounts("behind restore(0)", x, 3, 0);
  }

  private static void dueCounts(String when, HashedDirectory x, int splits, int merges) {
    Check.due("splits() " + when, x.splits(), splits);
    Check.due("merges() " + when, x.merges(), merges);
  }

  /** "The text buffer, the saved states and the slots are not part of the state." */
  private static void theTextIsNotPartOfTheState() {
    HashedDirectory x = Check.with("a");
    Check.type(x, "ab");
    x.save(0);
    x.open(0);
    Check.type(x, "abc");
    x.undo();
    Check.due("textLength() behind undo()", x.textLength(), 3);
    Check.due("hashOfText() behind undo()", x.hashOfText(), 17);
    x.restore(0);
    Check.due("textLength() behind restore(0)", x.textLength(), 3);
    x.clearText();
    x.undo();
    Check.due("textLength() behind undo()", x.textLength(), 0);
    Check.due("add()", Check.add(x, "b"), 1);
    x.undo();
    Check.due("textLength() behind undo() of add()", x.textLength(), 0);
  }

  private static void theSavedStatesAreNotPartOfTheState() {
    HashedDirectory x = new HashedDirectory();
    x.save(0);
    Check.add(x, "a");
    Check.add(x, "b");
    Check.due("restore(0) of no saved states", x.restore(0), 0);
    Check.due("savedStates()", x.savedStates(), 3);
    Check.due("undo() of restore(0)", x.undo(), 2);
    Check.due("entries()", x.entries(), 2);
    Check.due("undo() of add()", x.undo(), 1);
    Check.due("entries()", x.entries(), 1);
    HashedDirectory y = sent(8);
    y.save(1);
    Check.due("savedStates()", y.savedStates(), 6);
    y.restore(1);
    Check.due("savedStates()", y.savedStates(), 6);
    Check.due("undo()", y.undo(), 5);
    Check.due("undo()", y.undo(), 4);
    Check.due("position(0)", y.position(0), 6);
  }

  private static void theSlotsAreNotPartOfTheState() {
    HashedDirectory x = Check.with("a");
    Check.add(x, "b");
    x.save(0);
    x.undo();
    Check.due("restore(0) behind undo()", x.restore(0), 2);
    x.remove(0);
    x.save(1);
    x.restore(0);
    Check.due("restore(1) behind restore(0)", x.restore(1), 1);
    x.undo();
    Check.due("restore(1) behind undo()", x.restore(1), 1);
  }

  /** Forty entries and four readers go into all six saved states and both slots. */
  private static void aFullStateIsSaved() {
    HashedDirectory x = Samples.filled(40);
    for (int reader = 0; reader < 4; reader++) {
      x.open(reader);
      x.seek(reader, 10 * reader);
    }
    String before = Check.ids(x);
    Check.due("save(0)", x.save(0), 40);
    Check.due("save(1)", x.save(1), 40);
    for (int id = 0; id < 6; id++) {
      Check.due("remove()", x.remove(39 - id), 39 - id);
    }
    for (int left = 5; left >= 0; left--) {
      Check.due("undo()", x.undo(), left);
      Check.due("entries() behind undo()", x.entries(), 40 - left);
    }
    Check.due("the ids behind undo()", Check.ids(x), before);
    x.remove(0);
    Check.due("restore(1)", x.restore(1), 40);
    Check.due("the ids behind restore(1)", Check.ids(x), before);
    duePositions(x, 0, 10, 20, 30);
  }

  /** "An object is used for at most 512 calls": the last of them is still answered. */
  private static void fiveHundredTwelveCalls() {
    HashedDirectory x = new HashedDirectory();
    x.open(0);
    for (int call = 2; call <= 506; call++) {
      Check.due("seek() as call " + call, x.seek(0, call), call == 2 ? -1 : call - 1);
    }
    for (int left = 5; left >= 1; left--) {
      Check.due("undo()", x.undo(), left);
    }
    Check.due("undo() as call 512", x.undo(), 0);
    HashedDirectory y = new HashedDirectory();
    for (int call = 1; call <= 511; call++) {
      Check.due("undo()", Check.answer(y::undo), Check.STATE);
    }
    Check.due("open(0) as call 512", y.open(0), 1);
  }

  /** Twenty renames in each call, from a state that is brought back each time. */
  private static void fiveHundredTwelveDearCalls() {
    HashedDirectory x = Check.with("a");
    Check.type(x, Samples.RENAMINGS);
    x.save(0);
    for (int call = 86; call <= 512; call += 2) {
      Check.due("runText() as call " + (call - 1), x.runText(), 20);
      Check.due("restore(0) as call " + call, x.restore(0), 1);
    }
  }

  /** "NONE = -2", "START = -1": what the calls answer is these. */
  private static void theConstants() {
    Check.due("NONE", HashedDirectory.NONE, -2);
    Check.due("START", HashedDirectory.START, -1);
    HashedDirectory x = new HashedDirectory();
    Check.due("position(0) of a closed reader", x.position(0), HashedDirectory.NONE);
    x.open(0);
    Check.due("position(0) of a new reader", x.position(0), HashedDirectory.START);
  }
}
