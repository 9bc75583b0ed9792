/**
 * A directory whose names are kept in a binary tree by their hash, and whose readers keep a
 * position that stays valid while names come and go and while the tree is split and merged.
 */
public final class HashedDirectory {
  /** The result of several methods if there is nothing to return. */
  public static final int NONE = -2;
  /** The position of a reader that has read nothing yet. */
  public static final int START = -1;

  private static final int MAX_ENTRIES = 40;
  private static final int MAX_IDS = 1000;
  private static final int MAX_LETTERS = 6;
  private static final int MAX_TEXT = 80;
  private static final int MAX_SAVED = 6;
  private static final int SLOTS = 2;
  private static final int READERS = 4;

  private static final int HASHES = 64;
  private static final int KEYS_PER_HASH = 1000;
  private static final int KEYS = HASHES * KEYS_PER_HASH;

  private static final int MAX_DEPTH = 6;
  private static final int MAX_LEAF_SIZE = 4;
  private static final int MAX_MERGED_SIZE = 2;

  private static final int NO_NAME = 0;
  private static final int NOWHERE = -1;

  private final State state = new State();
  private final History history = new History();
  private final State[] slots = new State[SLOTS];
  private final boolean[] slotFilled = new boolean[SLOTS];
  private final Text text = new Text();

  /** Creates an empty directory with closed readers. */
  public HashedDirectory() {
    for (int slot = 0; slot < SLOTS; slot++) {
      slots[slot] = new State();
    }
  }

  // ---- entries

  /** Adds the name in the text buffer; answers the id of the new entry. */
  public int add() throws IllegalArgumentException, IllegalStateException {
    int name = nameInText();
    requireAddable(name);
    history.push(state);
    text.empty();
    return state.makeEntry(name);
  }

  /** Removes an entry; answers the number of entries that are left. */
  public int remove(int id) throws IndexOutOfBoundsException {
    int place = placeOfEntry(id);
    history.push(state);
    state.dropEntry(place);
    return state.entries.count;
  }

  /** Renames an entry to the name in the text buffer; answers its new id. */
  public int rename(int id)
      throws IndexOutOfBoundsException, IllegalArgumentException, IllegalStateException {
    int place = placeOfEntry(id);
    int name = nameInText();
    if (!state.canRenameTo(name)) {
      throw new IllegalStateException("the name is taken or no id is left");
    }
    history.push(state);
    text.empty();
    state.dropEntry(place);
    return state.makeEntry(name);
  }

  // ---- readers

  /** Opens a reader at START; answers the number of open readers. */
  public int open(int reader) throws IndexOutOfBoundsException {
    requireReader(reader);
    history.push(state);
    state.positions[reader] = START;
    return state.openReaders();
  }

  /** Closes a reader; answers the position that it had. */
  public int close(int reader) throws IndexOutOfBoundsException, IllegalStateException {
    requireReader(reader);
    requireOpen(reader);
    history.push(state);
    int old = state.positions[reader];
    state.positions[reader] = NONE;
    return old;
  }

  /** Reads the next entry of a reader; answers its id, or NONE. */
  public int next(int reader) throws IndexOutOfBoundsException, IllegalStateException {
    requireReader(reader);
    requireOpen(reader);
    history.push(state);
    int place = state.nextPlace(reader);
    if (place >= state.entries.count) {
      return NONE;
    }
    state.positions[reader] = state.entries.keys[place];
    return state.entries.idIn(place);
  }

  /** Reads on to the last entry of the next entry's leaf; answers how many entries it read. */
  public int readLeaf(int reader) throws IndexOutOfBoundsException, IllegalStateException {
    requireReader(reader);
    requireOpen(reader);
    history.push(state);
    int place = state.nextPlace(reader);
    int end = state.endOfLeafAt(place);
    if (end <= place) {
      return 0;
    }
    state.positions[reader] = state.entries.keys[end - 1];
    return end - place;
  }

  /** Sets the position of a reader; answers the previous one. */
  public int seek(int reader, int position)
      throws IndexOutOfBoundsException, IllegalArgumentException, IllegalStateException {
    requireReader(reader);
    if (position < START || position >= KEYS) {
      throw new IllegalArgumentException("a position is START or from 0 to 63999");
    }
    requireOpen(reader);
    history.push(state);
    int old = state.positions[reader];
    state.positions[reader] = position;
    return old;
  }

  // ---- texts

  /** Appends a character to the text buffer; answers the length of the text. */
  public int appendText(int character) throws IllegalArgumentException, IllegalStateException {
    if (character < 32 || character > 126) {
      throw new IllegalArgumentException("a character code is from 32 to 126");
    }
    if (text.length >= MAX_TEXT) {
      throw new IllegalStateException("the text is full");
    }
    text.append(character);
    return text.length;
  }

  /** Empties the text buffer; answers the length that the text had. */
  public int clearText() {
    int old = text.length;
    text.empty();
    return old;
  }

  /** Answers the error position of the text, read as commands; NONE if it is valid. */
  public int errorPosition() {
    return text.commandError();
  }

  /** Executes the commands of the text; answers how many were executed. */
  public int runText() throws IllegalArgumentException {
    if (text.commandError() != NONE) {
      throw new IllegalArgumentException("the text is not valid commands");
    }
    history.push(state);
    int executed = 0;
    int from = 0;
    for (int to = 0; to <= text.length; to++) {
      if (text.endsCommand(to)) {
        if (!runCommand(from, to)) {
          return executed;
        }
        executed++;
        from = to + 1;
      }
    }
    return executed;
  }

  // ---- undo and slots

  /** Restores the state that was saved last; answers the number of saved states that remain. */
  public int undo() throws IllegalStateException {
    if (history.count == 0) {
      throw new IllegalStateException("there is no saved state");
    }
    history.popInto(state);
    return history.count;
  }

  /** Copies the state into a slot; answers the number of entries. */
  public int save(int slot) throws IndexOutOfBoundsException {
    requireSlot(slot);
    slots[slot].copyFrom(state);
    slotFilled[slot] = true;
    return state.entries.count;
  }

  /** Replaces the state by the one in a slot; answers the number of entries. */
  public int restore(int slot) throws IndexOutOfBoundsException, IllegalStateException {
    requireSlot(slot);
    if (!slotFilled[slot]) {
      throw new IllegalStateException("the slot is empty");
    }
    history.push(state);
    state.copyFrom(slots[slot]);
    return state.entries.count;
  }

  // ---- queries about entries; queries change nothing

  /** Answers the number of entries. */
  public int entries() {
    return state.entries.count;
  }

  /** Answers the id of the entry at a place in the order; NONE if there are not so many. */
  public int idAt(int index) throws IndexOutOfBoundsException {
    if (index < 0) {
      throw new IndexOutOfBoundsException("an index is not negative");
    }
    return index < state.entries.count ? state.entries.idIn(index) : NONE;
  }

  /** Answers the id of the entry with the name in the text buffer; NONE if there is none. */
  public int find() throws IllegalArgumentException {
    int place = state.entries.placeOfName(nameInText());
    return place == NOWHERE ? NONE : state.entries.idIn(place);
  }

  /** Answers the hash of the name in the text buffer. */
  public int hashOfText() throws IllegalArgumentException {
    return Names.hash(nameInText());
  }

  /** Answers the hash of an entry. */
  public int hashOf(int id) throws IndexOutOfBoundsException {
    return state.entries.hashIn(placeOfEntry(id));
  }

  /** Answers the character code of a letter of an entry's name; NONE behind its end. */
  public int letterOf(int id, int index) throws IndexOutOfBoundsException {
    int place = placeOfEntry(id);
    if (index < 0) {
      throw new IndexOutOfBoundsException("an index is not negative");
    }
    int number = Names.letterNumber(state.entries.names[place], index);
    return number == 0 ? NONE : 'a' + number - 1;
  }

  /** Answers the number of entries with a hash. */
  public int withHash(int hash) throws IndexOutOfBoundsException {
    requireHash(hash);
    return state.entries.countInBranch(hash, MAX_DEPTH);
  }

  // ---- queries about the tree

  /** Answers the number of leaves. */
  public int leaves() {
    return state.tree.leafCount();
  }

  /** Answers the depth of the leaf of a hash. */
  public int depthOf(int hash) throws IndexOutOfBoundsException {
    requireHash(hash);
    return state.tree.depths[hash];
  }

  /** Answers the number of entries in the leaf of a hash. */
  public int leafSize(int hash) throws IndexOutOfBoundsException {
    requireHash(hash);
    return state.entries.countInBranch(hash, state.tree.depths[hash]);
  }

  /** Answers the number of leaves that were split so far. */
  public int splits() {
    return state.tree.splitCount;
  }

  /** Answers the number of pairs of leaves that were merged so far. */
  public int merges() {
    return state.tree.mergeCount;
  }

  /** Answers the number of entries for each leaf. */
  public float meanLeafSize() {
    int leafCount = state.tree.leafCount();
    // The root is always there, but no divisor goes unlooked at.
    return leafCount > 0 ? (float) state.entries.count / (float) leafCount : 0;
  }

  /** Answers how many leaves there would be if the name in the text buffer was added. */
  public int leavesIfAdded() throws IllegalArgumentException, IllegalStateException {
    int name = nameInText();
    requireAddable(name);
    return state.tree.leafCountIfAdded(Names.hash(name), state.entries);
  }

  // ---- queries about readers

  /** Answers the position of a reader; NONE if it is closed. */
  public int position(int reader) throws IndexOutOfBoundsException {
    requireReader(reader);
    return state.positions[reader];
  }

  /** Answers the id of the next entry of a reader; NONE if there is none or it is closed. */
  public int peek(int reader) throws IndexOutOfBoundsException {
    requireReader(reader);
    if (!state.isOpen(reader)) {
      return NONE;
    }
    int place = state.nextPlace(reader);
    return place < state.entries.count ? state.entries.idIn(place) : NONE;
  }

  /** Answers the number of entries behind the position of a reader; NONE if it is closed. */
  public int remaining(int reader) throws IndexOutOfBoundsException {
    requireReader(reader);
    if (!state.isOpen(reader)) {
      return NONE;
    }
    return state.entries.count - state.nextPlace(reader);
  }

  /** Answers the number of saved states. */
  public int savedStates() {
    return history.count;
  }

  /** Answers the length of the text. */
  public int textLength() {
    return text.length;
  }

  // ---- what the calls above require

  private int nameInText() {
    int name = text.nameBetween(0, text.length);
    if (name == NO_NAME) {
      throw new IllegalArgumentException("the text is not a name");
    }
    return name;
  }

  private int placeOfEntry(int id) {
    int place = state.entries.placeOfId(id);
    if (place == NOWHERE) {
      throw new IndexOutOfBoundsException("there is no entry with this id");
    }
    return place;
  }

  private void requireAddable(int name) {
    if (!state.canAdd(name)) {
      throw new IllegalStateException("the name is taken or the directory is full");
    }
  }

  private void requireOpen(int reader) {
    if (!state.isOpen(reader)) {
      throw new IllegalStateException("the reader is closed");
    }
  }

  private static void requireReader(int reader) {
    if (reader < 0 || reader >= READERS) {
      throw new IndexOutOfBoundsException("there is no such reader");
    }
  }

  private static void requireSlot(int slot) {
    if (slot < 0 || slot >= SLOTS) {
      throw new IndexOutOfBoundsException("there is no such slot");
    }
  }

  private static void requireHash(int hash) {
    if (hash < 0 || hash >= HASHES) {
      throw new IndexOutOfBoundsException("there is no such hash");
    }
  }

  // ---- the commands of a text; each answers whether it could be executed

  private boolean runCommand(int from, int to) {
    int sign = text.charIn(from);
    if (sign == '+') {
      return runAdd(text.nameBetween(from + 1, to));
    }
    if (sign == '-') {
      return runRemove(text.nameBetween(from + 1, to));
    }
    int equals = text.indexOf('=', from, to);
    return runRename(text.nameBetween(from, equals), text.nameBetween(equals + 1, to));
  }

  private boolean runAdd(int name) {
    if (!state.canAdd(name)) {
      return false;
    }
    state.makeEntry(name);
    return true;
  }

  private boolean runRemove(int name) {
    int place = state.entries.placeOfName(name);
    if (place == NOWHERE) {
      return false;
    }
    state.dropEntry(place);
    return true;
  }

  private boolean runRename(int oldName, int newName) {
    int place = state.entries.placeOfName(oldName);
    if (place == NOWHERE || !state.canRenameTo(newName)) {
      return false;
    }
    state.dropEntry(place);
    state.makeEntry(newName);
    return true;
  }

  /**
   * Names as numbers: five bits a letter, the first letter in the highest ones, 0 behind the last
   * letter. So a name needs no object, and two names are the same if their numbers are.
   */
  private static final class Names {
    private static final int LETTER_BITS = 5;
    private static final int LETTER_MASK = 31;

    static boolean isLetter(int character) {
      return character >= 'a' && character <= 'z';
    }

    static int withLetter(int name, int index, int character) {
      return name | ((character - 'a' + 1) << shiftOf(index));
    }

    /** Answers 1 for "a" to 26 for "z", and 0 if the name is not so long. */
    static int letterNumber(int name, int index) {
      return index < MAX_LETTERS ? (name >> shiftOf(index)) & LETTER_MASK : 0;
    }

    static int hash(int name) {
      int hash = 7;
      for (int i = 0; i < MAX_LETTERS; i++) {
        int number = letterNumber(name, i);
        if (number == 0) {
          return hash;
        }
        hash = (5 * hash + number) % HASHES;
      }
      return hash;
    }

    private static int shiftOf(int index) {
      return LETTER_BITS * (MAX_LETTERS - 1 - index);
    }
  }

  /** The entries in their order. */
  private static final class Entries {
    final int[] keys = new int[MAX_ENTRIES];
    final int[] names = new int[MAX_ENTRIES];
    int count = 0;

    void copyFrom(Entries other) {
      System.arraycopy(other.keys, 0, keys, 0, MAX_ENTRIES);
      System.arraycopy(other.names, 0, names, 0, MAX_ENTRIES);
      count = other.count;
    }

    boolean isFull() {
      return count >= MAX_ENTRIES;
    }

    int idIn(int place) {
      return keys[place] % KEYS_PER_HASH;
    }

    int hashIn(int place) {
      return keys[place] / KEYS_PER_HASH;
    }

    int placeOfId(int id) {
      for (int place = 0; place < count; place++) {
        if (idIn(place) == id) {
          return place;
        }
      }
      return NOWHERE;
    }

    int placeOfName(int name) {
      for (int place = 0; place < count; place++) {
        if (names[place] == name) {
          return place;
        }
      }
      return NOWHERE;
    }

    /** Answers the place of the first entry whose key is greater, count if there is none. */
    int placeAfter(int key) {
      int place = 0;
      while (place < count && keys[place] <= key) {
        place++;
      }
      return place;
    }

    /** Counts the entries whose hashes have the first bits, as many as the depth, of a hash. */
    int countInBranch(int hash, int depth) {
      int before = Tree.firstHash(hash, depth) * KEYS_PER_HASH - 1;
      int last = Tree.lastHash(hash, depth) * KEYS_PER_HASH + KEYS_PER_HASH - 1;
      return placeAfter(last) - placeAfter(before);
    }

    void insert(int key, int name) {
      int place = placeAfter(key);
      for (int i = count; i > place; i--) {
        keys[i] = keys[i - 1];
        names[i] = names[i - 1];
      }
      keys[place] = key;
      names[place] = name;
      count++;
    }

    void takeOut(int place) {
      count--;
      for (int i = place; i < count; i++) {
        keys[i] = keys[i + 1];
        names[i] = names[i + 1];
      }
    }
  }

  /**
   * The shape of the tree, kept as the depth of the leaf of each hash: the hashes of one leaf are
   * neighbours, and its entries are neighbours in the order, so no nodes are needed.
   */
  private static final class Tree {
    final int[] depths = new int[HASHES];
    int splitCount = 0;
    int mergeCount = 0;

    void copyFrom(Tree other) {
      System.arraycopy(other.depths, 0, depths, 0, HASHES);
      splitCount = other.splitCount;
      mergeCount = other.mergeCount;
    }

    /** Answers the least hash that leads through the same node at a depth as a hash. */
    static int firstHash(int hash, int depth) {
      return hash & ~((HASHES - 1) >> depth);
    }

    /** Answers the greatest hash that leads through the same node at a depth as a hash. */
    static int lastHash(int hash, int depth) {
      return hash | ((HASHES - 1) >> depth);
    }

    /** Answers a hash that leads through the sibling of the node at a depth. */
    static int siblingHash(int hash, int depth) {
      return hash ^ (HASHES >> depth);
    }

    /** Answers 1 or more, for hash 0 is always the first one of its leaf. */
    int leafCount() {
      int leafCount = 0;
      for (int hash = 0; hash < HASHES; hash++) {
        if (firstHash(hash, depths[hash]) == hash) {
          leafCount++;
        }
      }
      return leafCount;
    }

    int leafCountIfAdded(int hash, Entries entries) {
      int depth = depths[hash];
      while (depth < MAX_DEPTH && entries.countInBranch(hash, depth) + 1 > MAX_LEAF_SIZE) {
        depth++;
      }
      // Each split on the way down makes two leaves of one.
      return leafCount() + depth - depths[hash];
    }

    void splitFrom(int hash, Entries entries) {
      for (int depth = depths[hash]; depth < MAX_DEPTH; depth++) {
        if (entries.countInBranch(hash, depth) <= MAX_LEAF_SIZE) {
          return;
        }
        setDepth(hash, depth, depth + 1);
        splitCount++;
      }
    }

    void mergeFrom(int hash, Entries entries) {
      for (int depth = depths[hash]; depth > 0; depth--) {
        boolean siblingIsLeaf = depths[siblingHash(hash, depth)] == depth;
        if (!siblingIsLeaf || entries.countInBranch(hash, depth - 1) > MAX_MERGED_SIZE) {
          return;
        }
        setDepth(hash, depth - 1, depth - 1);
        mergeCount++;
      }
    }

    /** Gives all hashes below the node at a depth on the way of a hash a new leaf depth. */
    private void setDepth(int hash, int nodeDepth, int leafDepth) {
      int last = lastHash(hash, nodeDepth);
      for (int i = firstHash(hash, nodeDepth); i <= last; i++) {
        depths[i] = leafDepth;
      }
    }
  }

  /** All that undo and the slots bring back. */
  private static final class State {
    final Entries entries = new Entries();
    final Tree tree = new Tree();
    /** NONE stands for a closed reader. */
    final int[] positions = new int[READERS];
    int idsGiven = 0;

    State() {
      for (int reader = 0; reader < READERS; reader++) {
        positions[reader] = NONE;
      }
    }

    void copyFrom(State other) {
      entries.copyFrom(other.entries);
      tree.copyFrom(other.tree);
      System.arraycopy(other.positions, 0, positions, 0, READERS);
      idsGiven = other.idsGiven;
    }

    boolean canAdd(int name) {
      return !entries.isFull() && canRenameTo(name);
    }

    boolean canRenameTo(int name) {
      return idsGiven < MAX_IDS && entries.placeOfName(name) == NOWHERE;
    }

    int makeEntry(int name) {
      int id = idsGiven;
      int hash = Names.hash(name);
      idsGiven++;
      entries.insert(hash * KEYS_PER_HASH + id, name);
      tree.splitFrom(hash, entries);
      return id;
    }

    void dropEntry(int place) {
      int hash = entries.hashIn(place);
      entries.takeOut(place);
      tree.mergeFrom(hash, entries);
    }

    boolean isOpen(int reader) {
      return positions[reader] != NONE;
    }

    int openReaders() {
      int open = 0;
      for (int reader = 0; reader < READERS; reader++) {
        if (isOpen(reader)) {
          open++;
        }
      }
      return open;
    }

    int nextPlace(int reader) {
      return entries.placeAfter(positions[reader]);
    }

    /** Answers the place behind the last entry of the leaf that holds the entry at a place. */
    int endOfLeafAt(int place) {
      if (place >= entries.count) {
        return place;
      }
      int hash = entries.hashIn(place);
      int lastHash = Tree.lastHash(hash, tree.depths[hash]);
      return entries.placeAfter(lastHash * KEYS_PER_HASH + KEYS_PER_HASH - 1);
    }
  }

  /** The saved states, in a ring whose rows are made once and used again. */
  private static final class History {
    private final State[] rows = new State[MAX_SAVED];
    private int oldest = 0;
    int count = 0;

    History() {
      for (int row = 0; row < MAX_SAVED; row++) {
        rows[row] = new State();
      }
    }

    void push(State state) {
      if (count == MAX_SAVED) {
        oldest = (oldest + 1) % MAX_SAVED;
        count--;
      }
      rows[(oldest + count) % MAX_SAVED].copyFrom(state);
      count++;
    }

    void popInto(State state) {
      count--;
      state.copyFrom(rows[(oldest + count) % MAX_SAVED]);
    }
  }

  /** The text buffer, read as a name or as commands. */
  private static final class Text {
    // The part of the commands that the next character belongs to.
    private static final int COMMAND = 0;
    private static final int OLD_NAME = 1;
    private static final int LAST_NAME = 2;
    private static final int WRONG = 3;

    private final int[] characters = new int[MAX_TEXT];
    int length = 0;

    void append(int character) {
      characters[length] = character;
      length++;
    }

    void empty() {
      length = 0;
    }

    int charIn(int index) {
      return characters[index];
    }

    /** Answers the index of a character in a part of the text, the end of the part if none. */
    int indexOf(int character, int from, int to) {
      int index = from;
      while (index < to && characters[index] != character) {
        index++;
      }
      return index;
    }

    boolean endsCommand(int index) {
      return index >= length || characters[index] == ';';
    }

    /** Answers the name that a part of the text is, NO_NAME if it is none. */
    int nameBetween(int from, int to) {
      if (to - from > MAX_LETTERS) {
        return NO_NAME;
      }
      int name = NO_NAME;
      for (int i = from; i < to; i++) {
        if (!Names.isLetter(characters[i])) {
          return NO_NAME;
        }
        name = Names.withLetter(name, i - from, characters[i]);
      }
      return name;
    }

    /** Answers the error position of the text, NONE if it is valid commands. */
    int commandError() {
      int part = COMMAND;
      int letters = 0;
      for (int i = 0; i < length; i++) {
        int character = characters[i];
        part = partAfter(part, letters, character);
        if (part == WRONG) {
          return i;
        }
        letters = Names.isLetter(character) ? letters + 1 : 0;
      }
      return part == LAST_NAME && letters > 0 ? NONE : length;
    }

    /** Each part but WRONG can be gone on with to valid commands, so no look ahead is needed. */
    private static int partAfter(int part, int letters, int character) {
      if (Names.isLetter(character)) {
        return partAfterLetter(part, letters);
      }
      if (part == COMMAND) {
        return character == '+' || character == '-' ? LAST_NAME : WRONG;
      }
      if (letters == 0) {
        return WRONG;
      }
      if (part == OLD_NAME) {
        return character == '=' ? LAST_NAME : WRONG;
      }
      return character == ';' ? COMMAND : WRONG;
    }

    private static int partAfterLetter(int part, int letters) {
      if (letters >= MAX_LETTERS) {
        return WRONG;
      }
      return part == COMMAND ? OLD_NAME : part;
    }
  }
}
