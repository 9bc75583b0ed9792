/**
 * Terms 7: for each exception of each throws clause a refused call, behind which every query
 * answers as without it, at once and behind later calls.
 */
public final class RefusalsTest {
  private static final int[] NO_READERS = {-1, 4, Integer.MIN_VALUE, Integer.MAX_VALUE};
  private static final int[] NO_SLOTS = {-1, 2, Integer.MIN_VALUE, Integer.MAX_VALUE};
  private static final int[] NO_HASHES = {-1, 64, Integer.MIN_VALUE, Integer.MAX_VALUE};
  private static final int[] NO_INDEXES = {-1, Integer.MIN_VALUE};
  /** In busy(): before the first id, removed, not given yet, beyond all ids, and a key. */
  private static final int[] NO_IDS = {
    -1, 1, 5, 999, 1000, 36000, Integer.MIN_VALUE, Integer.MAX_VALUE
  };
  private static final int[] NO_POSITIONS = {
    -2, 64000, Integer.MIN_VALUE, Integer.MAX_VALUE
  };
  private static final int[] NO_CHARACTERS = {
    31, 127, 0, -1, 'a' + 65536, Integer.MIN_VALUE, Integer.MAX_VALUE
  };
  private static final String[] NO_COMMANDS = {
    "", "a", "+", "-", "a=", "+f;", "+f;g", ";+f", "+f;;+g", "+abcdefg", " +f", "+f;+F"
  };
  private static final String FULL_TEXT = "+f;".repeat(26) + "+f";

  private interface UseOf {
    Object on(HashedDirectory x, int argument);
  }

  private RefusalsTest() {}

  public static void main(String[] args) {
    add();
    addTellsTheTextFirst();
    remove();
    rename();
    renameTellsTheIdFirstThenTheText();
    open();
    close();
    next();
    readLeaf();
    seek();
    seekTellsTheReaderFirstThenThePosition();
    appendText();
    appendTextTellsTheCharacterFirst();
    runText();
    undo();
    save();
    restore();
    restoreTellsTheSlotFirst();
    queriesOfEntries();
    letterOf();
    queriesOfHashes();
    leavesIfAdded();
    leavesIfAddedTellsTheTextFirst();
    queriesOfReaders();
    Check.finish("RefusalsTest");
  }

  private static void refused(String call, Twins.Setup setup, Twins.Use use, String exception) {
    Twins.unchanged(call, setup, use, exception);
  }

  private static void refusedOfEach(String call, int[] arguments, UseOf use, String exception) {
    for (int argument : arguments) {
      refused(call + "(" + argument + ")", () -> Samples.busy("z"), x -> use.on(x, argument),
          exception);
    }
  }

  private static void refusedOfNoNames(String call, Twins.Use use) {
    for (String text : Samples.NO_NAMES) {
      refused(call + " of '" + text + "'", () -> Samples.busy(text), use, Check.ARGUMENT);
    }
  }

  private static HashedDirectory full(String text) {
    HashedDirectory x = Samples.filled(40);
    Check.type(x, text);
    return x;
  }

  private static HashedDirectory spent(String text) {
    HashedDirectory x = Samples.spent(1000);
    Check.type(x, text);
    return x;
  }

  /** Promise 2: not a name; a taken name, 40 entries, 1000 ids. */
  private static void add() {
    refusedOfNoNames("add()", HashedDirectory::add);
    refused("add() of a taken name", () -> Samples.busy("a"), HashedDirectory::add, Check.STATE);
    refused("add() to 40 entries", () -> full("zz"), HashedDirectory::add, Check.STATE);
    refused("add() behind 1000 ids", () -> spent("zz"), HashedDirectory::add, Check.STATE);
  }

  private static void addTellsTheTextFirst() {
    refused("add() of no name to 40 entries", () -> full("Z"), HashedDirectory::add,
        Check.ARGUMENT);
    refused("add() of no name behind 1000 ids", () -> spent("abcdefg"), HashedDirectory::add,
        Check.ARGUMENT);
  }

  /** Promise 3: no entry with this id. */
  private static void remove() {
    refusedOfEach("remove", NO_IDS, HashedDirectory::remove, Check.INDEX);
    refused("remove(0) of a new object", HashedDirectory::new, x -> x.remove(0), Check.INDEX);
    refused("remove(40) of 40 entries", () -> full(""), x -> x.remove(40), Check.INDEX);
    refused("remove(1000) behind 1000 ids", () -> spent(""), x -> x.remove(1000), Check.INDEX);
  }

  /** Promise 4: no entry with this id; not a name; a taken name, also its own, 1000 ids. */
  private static void rename() {
    refusedOfEach("rename", NO_IDS, HashedDirectory::rename, Check.INDEX);
    refusedOfNoNames("rename(0)", x -> x.rename(0));
    refused("rename(0) to the name of another", () -> Samples.busy("c"), x -> x.rename(0),
        Check.STATE);
    refused("rename(0) to its own name", () -> Samples.busy("a"), x -> x.rename(0), Check.STATE);
    refused("rename(999) behind 1000 ids", () -> spent("zz"), x -> x.rename(999), Check.STATE);
  }

  private static void renameTellsTheIdFirstThenTheText() {
    refused("rename(5) to no name", () -> Samples.busy("A"), x -> x.rename(5), Check.INDEX);
    refused("rename(1) to a taken name", () -> Samples.busy("a"), x -> x.rename(1), Check.INDEX);
    refused("rename(0) behind 1000 ids", () -> spent("zz"), x -> x.rename(0), Check.INDEX);
    refused("rename(0) to no name behind 1000 ids", () -> spent(""), x -> x.rename(0),
        Check.INDEX);
    refused("rename(999) to no name behind 1000 ids", () -> spent(""), x -> x.rename(999),
        Check.ARGUMENT);
  }

  /** Promise 5: no such reader. */
  private static void open() {
    refusedOfEach("open", NO_READERS, HashedDirectory::open, Check.INDEX);
  }

  /** Promise 6: no such reader; a closed one. */
  private static void close() {
    refusedOfEach("close", NO_READERS, HashedDirectory::close, Check.INDEX);
    closed("close", HashedDirectory::close);
  }

  /** Promise 7: no such reader; a closed one. */
  private static void next() {
    refusedOfEach("next", NO_READERS, HashedDirectory::next, Check.INDEX);
    closed("next", HashedDirectory::next);
  }

  /** Promise 8: no such reader; a closed one. */
  private static void readLeaf() {
    refusedOfEach("readLeaf", NO_READERS, HashedDirectory::readLeaf, Check.INDEX);
    closed("readLeaf", HashedDirectory::readLeaf);
  }

  /** A reader that was never open, and each reader of a new object. */
  private static void closed(String call, UseOf use) {
    refused(call + "(3) of a closed reader", () -> Samples.busy("z"), x -> use.on(x, 3),
        Check.STATE);
    for (int reader = 0; reader < 4; reader++) {
      int number = reader;
      refused(call + "(" + number + ") of a new object", HashedDirectory::new,
          x -> use.on(x, number), Check.STATE);
      refused(call + "(" + number + ") of a reader that was closed", () -> closedAgain(number),
          x -> use.on(x, number), Check.STATE);
    }
  }

  private static HashedDirectory closedAgain(int reader) {
    HashedDirectory x = Samples.busy("z");
    x.open(reader);
    x.close(reader);
    return x;
  }

  /** Promise 9: no such reader; a position out of range; a closed reader. */
  private static void seek() {
    refusedOfEach("seek to 0 of", NO_READERS, (x, reader) -> x.seek(reader, 0), Check.INDEX);
    refusedOfEach("seek of 0 to", NO_POSITIONS, (x, to) -> x.seek(0, to), Check.ARGUMENT);
    closed("seek to 0 of", (x, reader) -> x.seek(reader, 0));
    closed("seek to START of", (x, reader) -> x.seek(reader, HashedDirectory.START));
  }

  private static void seekTellsTheReaderFirstThenThePosition() {
    refusedOfEach("seek of -1 to", NO_POSITIONS, (x, to) -> x.seek(-1, to), Check.INDEX);
    refusedOfEach("seek of 4 to", NO_POSITIONS, (x, to) -> x.seek(4, to), Check.INDEX);
    refusedOfEach("seek of a closed reader to", NO_POSITIONS, (x, to) -> x.seek(3, to),
        Check.ARGUMENT);
  }

  /** Promise 10: a code out of range; a text of 80 characters. */
  private static void appendText() {
    refusedOfEach("appendText", NO_CHARACTERS, HashedDirectory::appendText, Check.ARGUMENT);
    for (int character : new int[] {32, 'a', 126}) {
      refused("appendText(" + character + ") to 80 characters", () -> Samples.busy(FULL_TEXT),
          x -> x.appendText(character), Check.STATE);
    }
  }

  private static void appendTextTellsTheCharacterFirst() {
    for (int character : NO_CHARACTERS) {
      refused("appendText(" + character + ") to 80 characters", () -> Samples.busy(FULL_TEXT),
          x -> x.appendText(character), Check.ARGUMENT);
    }
  }

  /** Promise 13: not valid commands. */
  private static void runText() {
    for (String text : NO_COMMANDS) {
      refused("runText() of '" + text + "'", () -> Samples.busy(text), HashedDirectory::runText,
          Check.ARGUMENT);
    }
    String endsTooEarly = FULL_TEXT.substring(0, 79) + "+";
    refused("runText() of '" + endsTooEarly + "'", () -> Samples.busy(endsTooEarly),
        HashedDirectory::runText, Check.ARGUMENT);
  }

  /** Promise 14: no saved state. */
  private static void undo() {
    refused("undo() of a new object", HashedDirectory::new, HashedDirectory::undo, Check.STATE);
    refused("undo() behind six of them", () -> undoneSixTimes(), HashedDirectory::undo,
        Check.STATE);
  }

  private static HashedDirectory undoneSixTimes() {
    HashedDirectory x = Samples.busy("z");
    Twins.undo(x, 6);
    return x;
  }

  /** Promise 15: no such slot. */
  private static void save() {
    refusedOfEach("save", NO_SLOTS, HashedDirectory::save, Check.INDEX);
  }

  /** Promise 16: no such slot; an empty one. */
  private static void restore() {
    refusedOfEach("restore", NO_SLOTS, HashedDirectory::restore, Check.INDEX);
    refused("restore(1) of an empty slot", () -> Samples.busy("z"), x -> x.restore(1),
        Check.STATE);
    refused("restore(0) of a new object", HashedDirectory::new, x -> x.restore(0), Check.STATE);
    refused("restore(1) of a new object", HashedDirectory::new, x -> x.restore(1), Check.STATE);
  }

  private static void restoreTellsTheSlotFirst() {
    for (int slot : NO_SLOTS) {
      refused("restore(" + slot + ") while both slots are empty", HashedDirectory::new,
          x -> x.restore(slot), Check.INDEX);
    }
  }

  /** Promises 18 to 21: a negative index; not a name; no entry with this id. */
  private static void queriesOfEntries() {
    refusedOfEach("idAt", NO_INDEXES, HashedDirectory::idAt, Check.INDEX);
    refused("idAt(-1) of a new object", HashedDirectory::new, x -> x.idAt(-1), Check.INDEX);
    refusedOfNoNames("find()", HashedDirectory::find);
    refusedOfNoNames("hashOfText()", HashedDirectory::hashOfText);
    refusedOfEach("hashOf", NO_IDS, HashedDirectory::hashOf, Check.INDEX);
  }

  /** Promise 22: no entry with this id, or a negative index. */
  private static void letterOf() {
    refusedOfEach("letterOf index 0 of", NO_IDS, (x, id) -> x.letterOf(id, 0), Check.INDEX);
    refusedOfEach("letterOf index 7 of", NO_IDS, (x, id) -> x.letterOf(id, 7), Check.INDEX);
    refusedOfEach("letterOf 0 at", NO_INDEXES, (x, index) -> x.letterOf(0, index), Check.INDEX);
    refusedOfEach("letterOf 5 at", NO_INDEXES, (x, index) -> x.letterOf(5, index), Check.INDEX);
  }

  /** Promises 23, 25 and 26: no such hash. */
  private static void queriesOfHashes() {
    refusedOfEach("withHash", NO_HASHES, HashedDirectory::withHash, Check.INDEX);
    refusedOfEach("depthOf", NO_HASHES, HashedDirectory::depthOf, Check.INDEX);
    refusedOfEach("leafSize", NO_HASHES, HashedDirectory::leafSize, Check.INDEX);
  }

  /** Promise 30: not a name; whatever add() throws an IllegalStateException for. */
  private static void leavesIfAdded() {
    refusedOfNoNames("leavesIfAdded()", HashedDirectory::leavesIfAdded);
    refused("leavesIfAdded() of a taken name", () -> Samples.busy("a"),
        HashedDirectory::leavesIfAdded, Check.STATE);
    refused("leavesIfAdded() of 40 entries", () -> full("zz"), HashedDirectory::leavesIfAdded,
        Check.STATE);
    refused("leavesIfAdded() behind 1000 ids", () -> spent("zz"), HashedDirectory::leavesIfAdded,
        Check.STATE);
  }

  private static void leavesIfAddedTellsTheTextFirst() {
    refused("leavesIfAdded() of no name and 40 entries", () -> full(""),
        HashedDirectory::leavesIfAdded, Check.ARGUMENT);
    refused("leavesIfAdded() of no name behind 1000 ids", () -> spent("Z"),
        HashedDirectory::leavesIfAdded, Check.ARGUMENT);
  }

  /** Promises 31 to 33: no such reader. */
  private static void queriesOfReaders() {
    refusedOfEach("position", NO_READERS, HashedDirectory::position, Check.INDEX);
    refusedOfEach("peek", NO_READERS, HashedDirectory::peek, Check.INDEX);
    refusedOfEach("remaining", NO_READERS, HashedDirectory::remaining, Check.INDEX);
  }
}
