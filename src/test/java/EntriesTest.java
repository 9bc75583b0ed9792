/** Promises 1 to 4 and 17 to 23: a new object, operations on entries, queries about entries. */
public final class EntriesTest {
  private static final Class<?> INDEX = IndexOutOfBoundsException.class;
  private static final Class<?> ARGUMENT = IllegalArgumentException.class;
  private static final Class<?> STATE = IllegalStateException.class;

  private EntriesTest() {}

  public static void main(String[] args) {
    promise1NewObject();
    promise1Constants();
    promise2Add();
    promise2AddUndoable();
    promise2AddWrong();
    promise3Remove();
    promise3RemoveWrong();
    promise4Rename();
    promise4RenameUndoable();
    promise4RenameWrong();
    promise17Entries();
    promise18IdAt();
    promise19Find();
    promise20HashOfText();
    promise21HashOf();
    promise22LetterOf();
    promise23WithHash();
    Check.finish("EntriesTest");
  }

  private static void promise1NewObject() {
    HashedDirectory x = new HashedDirectory();
    Check.due("entries() of a new object", x.entries(), 0);
    Check.due("idAt(0) of a new object", x.idAt(0), -2);
    Check.due("leaves() of a new object", x.leaves(), 1);
    Check.due("splits() of a new object", x.splits(), 0);
    Check.due("merges() of a new object", x.merges(), 0);
    Check.due("meanLeafSize() of a new object", x.meanLeafSize(), 0.0f);
    Check.due("savedStates() of a new object", x.savedStates(), 0);
    Check.due("textLength() of a new object", x.textLength(), 0);
    for (int reader = 0; reader < 4; reader++) {
      Check.due("position of a new object", x.position(reader), -2);
    }
    for (int hash = 0; hash < 64; hash++) {
      Check.due("depthOf of a new object", x.depthOf(hash), 0);
      Check.due("leafSize of a new object", x.leafSize(hash), 0);
      Check.due("withHash of a new object", x.withHash(hash), 0);
    }
    Check.dueThrow(x, "undo() of a new object", STATE, x::undo);
    Check.dueThrow(x, "restore(0) of a new object", STATE, () -> x.restore(0));
    Check.dueThrow(x, "restore(1) of a new object", STATE, () -> x.restore(1));
    Check.due("the first id", Check.add(x, "a"), 0);
  }

  private static void promise1Constants() {
    Check.due("NONE", HashedDirectory.NONE, -2);
    Check.due("START", HashedDirectory.START, -1);
  }

  private static void promise2Add() {
    HashedDirectory x = new HashedDirectory();
    Check.due("add() of z", Check.add(x, "z"), 0);
    Check.due("textLength() behind add()", x.textLength(), 0);
    Check.due("add() of a", Check.add(x, "a"), 1);
    Check.due("add() of six letters", Check.add(x, "abcdef"), 2);
    Check.due("the name", Check.nameOf(x, 2), "abcdef");
    Check.due("the order", Check.ids(x), "2 1 0");
    Check.due("savedStates()", x.savedStates(), 3);
    x.remove(2);
    Check.due("an id is not given twice", Check.add(x, "abcdef"), 3);
  }

  private static void promise2AddUndoable() {
    HashedDirectory x = Check.with("a", "b");
    Check.due("undo()", x.undo(), 1);
    Check.due("the ids behind undo()", Check.ids(x), "0");
    Check.due("the text behind undo()", x.textLength(), 0);
    Check.due("the number of ids given is undone", Check.add(x, "c"), 1);
  }

  private static void promise2AddWrong() {
    for (String text : Samples.NO_NAMES) {
      HashedDirectory x = Check.with("a");
      Check.type(x, text);
      Check.dueThrow(x, "add() of '" + text + "'", ARGUMENT, x::add);
    }
    HashedDirectory x = Check.with("a", "ab");
    Check.type(x, "ab");
    Check.dueThrow(x, "add() of a taken name", STATE, x::add);
    x.remove(1);
    Check.due("add() of a name that is free again", x.add(), 2);
  }

  private static void promise3Remove() {
    HashedDirectory x = Check.with("a", "b", "c");
    Check.type(x, "d");
    Check.due("remove(1)", x.remove(1), 2);
    Check.due("the ids that are left", Check.ids(x), "0 2");
    Check.due("textLength() behind remove()", x.textLength(), 1);
    Check.due("remove(0)", x.remove(0), 1);
    Check.due("remove(2)", x.remove(2), 0);
    Check.due("the ids that are left", Check.ids(x), "");
    Check.due("savedStates()", x.savedStates(), 6);
    Check.due("undo()", x.undo(), 5);
    Check.due("the ids behind undo()", Check.ids(x), "2");
    Check.due("the name behind undo()", Check.nameOf(x, 2), "c");
  }

  private static void promise3RemoveWrong() {
    HashedDirectory x = Check.with("a", "b");
    x.remove(0);
    int[] ids = {-1, -2, 0, 2, 1000, 36000, Integer.MIN_VALUE, Integer.MAX_VALUE};
    for (int id : ids) {
      Check.dueThrow(x, "remove(" + id + ")", INDEX, () -> x.remove(id));
    }
  }

  private static void promise4Rename() {
    HashedDirectory x = Check.with("a", "b", "c");
    Check.type(x, "z");
    Check.due("rename(0)", x.rename(0), 3);
    Check.due("textLength() behind rename()", x.textLength(), 0);
    Check.due("the order", Check.ids(x), "1 2 3");
    Check.due("the name", Check.nameOf(x, 3), "z");
    Check.due("the hash", x.hashOf(3), 61);
    Check.due("entries()", x.entries(), 3);
    Check.type(x, "a");
    Check.due("find() of the old name", x.find(), -2);
    Check.due("rename() to a name that is free again", x.rename(3), 4);
    Check.due("the order", Check.ids(x), "4 1 2");
  }

  private static void promise4RenameUndoable() {
    HashedDirectory x = Check.with("a", "b");
    Check.type(x, "z");
    x.rename(0);
    Check.due("savedStates()", x.savedStates(), 3);
    Check.due("undo()", x.undo(), 2);
    Check.due("the ids behind undo()", Check.ids(x), "0 1");
    Check.due("the name behind undo()", Check.nameOf(x, 0), "a");
    Check.due("textLength() behind undo()", x.textLength(), 0);
  }

  private static void promise4RenameWrong() {
    for (String text : Samples.NO_NAMES) {
      HashedDirectory x = Check.with("a");
      Check.type(x, text);
      Check.dueThrow(x, "rename(0) to '" + text + "'", ARGUMENT, () -> x.rename(0));
      Check.dueThrow(x, "rename(1) to '" + text + "'", INDEX, () -> x.rename(1));
    }
    HashedDirectory x = Check.with("a", "b");
    Check.type(x, "a");
    Check.dueThrow(x, "rename(1) to a taken name", STATE, () -> x.rename(1));
    Check.dueThrow(x, "rename(0) to its own name", STATE, () -> x.rename(0));
    Check.dueThrow(x, "rename(2) to a taken name", INDEX, () -> x.rename(2));
    Check.dueThrow(x, "rename(-1) to a taken name", INDEX, () -> x.rename(-1));
  }

  private static void promise17Entries() {
    HashedDirectory x = Check.with("a", "b");
    Check.due("entries()", x.entries(), 2);
    Check.add(x, "c");
    Check.due("entries() behind add()", x.entries(), 3);
    x.remove(0);
    Check.due("entries() behind remove()", x.entries(), 2);
    x.undo();
    Check.due("entries() behind undo()", x.entries(), 3);
    Check.due("entries() saves nothing", x.savedStates(), 3);
  }

  /** "s" and "ab" both have the hash 54, so their ids give their order. */
  private static void promise18IdAt() {
    HashedDirectory x = Check.with("z", "ab", "a", "s");
    Check.due("idAt(0)", x.idAt(0), 2);
    Check.due("idAt(1)", x.idAt(1), 1);
    Check.due("idAt(2)", x.idAt(2), 3);
    Check.due("idAt(3)", x.idAt(3), 0);
    Check.due("idAt(4)", x.idAt(4), -2);
    Check.due("idAt(40)", x.idAt(40), -2);
    Check.due("idAt(MAX_VALUE)", x.idAt(Integer.MAX_VALUE), -2);
    Check.dueThrow(x, "idAt(-1)", INDEX, () -> x.idAt(-1));
    Check.dueThrow(x, "idAt(MIN_VALUE)", INDEX, () -> x.idAt(Integer.MIN_VALUE));
  }

  private static void promise19Find() {
    HashedDirectory x = Check.with("s", "ab", "a");
    String[] texts = {"s", "ab", "a", "b", "ba", "abc"};
    int[] ids = {0, 1, 2, -2, -2, -2};
    for (int i = 0; i < texts.length; i++) {
      Check.type(x, texts[i]);
      Check.due("find() of " + texts[i], x.find(), ids[i]);
      Check.due("textLength() behind find()", x.textLength(), texts[i].length());
    }
    for (String text : Samples.NO_NAMES) {
      HashedDirectory y = Check.with("a");
      Check.type(y, text);
      Check.dueThrow(y, "find() of '" + text + "'", ARGUMENT, y::find);
    }
  }

  private static void promise20HashOfText() {
    HashedDirectory x = new HashedDirectory();
    String[] texts = {"a", "z", "ab", "ba", "abc", "zzzzzz", "aaaaaa"};
    int[] hashes = {36, 61, 54, 58, 17, 51, 1};
    for (int i = 0; i < texts.length; i++) {
      Check.type(x, texts[i]);
      Check.due("hashOfText() of " + texts[i], x.hashOfText(), hashes[i]);
      Check.due("textLength() behind hashOfText()", x.textLength(), texts[i].length());
    }
    for (String text : Samples.NO_NAMES) {
      HashedDirectory y = new HashedDirectory();
      Check.type(y, text);
      Check.dueThrow(y, "hashOfText() of '" + text + "'", ARGUMENT, y::hashOfText);
    }
  }

  private static void promise21HashOf() {
    HashedDirectory x = Check.with("a", "z", "ab", "zzzzzz");
    int[] hashes = {36, 61, 54, 51};
    for (int id = 0; id < hashes.length; id++) {
      Check.due("hashOf(" + id + ")", x.hashOf(id), hashes[id]);
    }
    Check.dueThrow(x, "hashOf(4)", INDEX, () -> x.hashOf(4));
    Check.dueThrow(x, "hashOf(-1)", INDEX, () -> x.hashOf(-1));
    x.remove(2);
    Check.dueThrow(x, "hashOf() of a removed entry", INDEX, () -> x.hashOf(2));
  }

  private static void promise22LetterOf() {
    HashedDirectory x = Check.with("az", "qwerty");
    Check.due("letterOf(0, 0)", x.letterOf(0, 0), 97);
    Check.due("letterOf(0, 1)", x.letterOf(0, 1), 122);
    Check.due("letterOf(0, 2)", x.letterOf(0, 2), -2);
    Check.due("all letters", Check.nameOf(x, 1), "qwerty");
    Check.due("letterOf(1, 5)", x.letterOf(1, 5), 121);
    Check.due("letterOf(1, 6)", x.letterOf(1, 6), -2);
    Check.due("letterOf(1, 7)", x.letterOf(1, 7), -2);
    Check.due("letterOf(1, MAX_VALUE)", x.letterOf(1, Integer.MAX_VALUE), -2);
    Check.dueThrow(x, "letterOf(1, -1)", INDEX, () -> x.letterOf(1, -1));
    Check.dueThrow(x, "letterOf(1, MIN_VALUE)", INDEX, () -> x.letterOf(1, Integer.MIN_VALUE));
    Check.dueThrow(x, "letterOf(2, 0)", INDEX, () -> x.letterOf(2, 0));
    Check.dueThrow(x, "letterOf(-1, 0)", INDEX, () -> x.letterOf(-1, 0));
  }

  private static void promise23WithHash() {
    HashedDirectory x = Check.with("s", "ab", "r", "t");
    Check.due("withHash(53)", x.withHash(53), 1);
    Check.due("withHash(54)", x.withHash(54), 2);
    Check.due("withHash(55)", x.withHash(55), 1);
    Check.due("withHash(0)", x.withHash(0), 0);
    Check.due("withHash(63)", x.withHash(63), 0);
    Check.dueThrow(x, "withHash(-1)", INDEX, () -> x.withHash(-1));
    Check.dueThrow(x, "withHash(64)", INDEX, () -> x.withHash(64));
    Check.add(x, Samples.nameWithHash(0));
    Check.add(x, Samples.nameWithHash(63));
    Check.due("withHash(0)", x.withHash(0), 1);
    Check.due("withHash(63)", x.withHash(63), 1);
  }
}
