/** Promises 5 to 9 and 31 to 33: readers and the queries about them. */
public final class ReadersTest {
  private static final Class<?> INDEX = IndexOutOfBoundsException.class;
  private static final Class<?> ARGUMENT = IllegalArgumentException.class;
  private static final Class<?> STATE = IllegalStateException.class;
  private static final int[] NO_READERS = {-1, 4, Integer.MIN_VALUE, Integer.MAX_VALUE};

  private ReadersTest() {}

  public static void main(String[] args) {
    promise5Open();
    promise6Close();
    promise7Next();
    promise7NextWhileNamesComeAndGo();
    promise8ReadLeaf();
    promise8ReadLeafOfOtherLeaves();
    promise9Seek();
    promise9SeekWrong();
    promise31Position();
    promise32Peek();
    promise33Remaining();
    noSuchReader();
    closedReader();
    Check.finish("ReadersTest");
  }

  private static void promise5Open() {
    HashedDirectory x = Check.with("a");
    Check.due("open(2)", x.open(2), 1);
    Check.due("open(0)", x.open(0), 2);
    Check.due("open(3)", x.open(3), 3);
    Check.due("open(1)", x.open(1), 4);
    x.next(0);
    Check.due("position(0)", x.position(0), 36000);
    Check.due("open(0) anew", x.open(0), 4);
    Check.due("position(0) of a reader opened anew", x.position(0), -1);
    Check.due("undo()", x.undo(), 5);
    Check.due("position(0) behind undo()", x.position(0), 36000);
    x.undo();
    x.undo();
    Check.due("position(1) behind undo()", x.position(1), -2);
  }

  private static void promise6Close() {
    HashedDirectory x = Check.with("a");
    x.open(0);
    x.open(1);
    Check.due("close(0) of a new reader", x.close(0), -1);
    x.seek(1, 63999);
    Check.due("close(1)", x.close(1), 63999);
    Check.due("position(1)", x.position(1), -2);
    Check.due("savedStates()", x.savedStates(), 6);
    Check.due("undo()", x.undo(), 5);
    Check.due("position(1) behind undo()", x.position(1), 63999);
    Check.due("open(2) behind close(0)", x.open(2), 2);
  }

  private static void promise7Next() {
    HashedDirectory x = Check.with("c", "s", "ab");
    x.open(3);
    Check.due("next(3)", x.next(3), 0);
    Check.due("position(3)", x.position(3), 38000);
    Check.due("next(3)", x.next(3), 1);
    Check.due("position(3)", x.position(3), 54001);
    Check.due("next(3) of the same hash", x.next(3), 2);
    Check.due("position(3)", x.position(3), 54002);
    x.undo();
    Check.due("position(3) behind undo()", x.position(3), 54001);
    Check.due("next(3)", x.next(3), 2);
    Check.due("savedStates()", x.savedStates(), 6);
    Check.due("next(3) at the end", x.next(3), -2);
    Check.due("position(3) at the end", x.position(3), 54002);
    Check.due("undo() of a call that changed nothing", x.undo(), 5);
    Check.due("position(3) behind it", x.position(3), 54002);
    HashedDirectory y = new HashedDirectory();
    y.open(0);
    Check.due("next(0) of an empty directory", y.next(0), -2);
    Check.due("position(0)", y.position(0), -1);
    Check.due("savedStates() of a call that changed nothing", y.savedStates(), 2);
  }

  private static void promise7NextWhileNamesComeAndGo() {
    HashedDirectory x = Check.with("a", "c", "e");
    x.open(0);
    x.next(0);
    x.next(0);
    x.remove(1);
    Check.due("position(0) behind remove()", x.position(0), 38001);
    Check.run(x, "+b;+d;+f;+g;+h");
    Check.due("position(0) behind splits", x.position(0), 38001);
    Check.due("next(0) is d", x.next(0), 4);
    Check.due("next(0) is e", x.next(0), 2);
    Check.run(x, "-f;-g;-h;-a;-b;-d");
    Check.due("merges have been", x.merges() > 0, true);
    Check.due("position(0) behind merges", x.position(0), 40002);
    Check.due("next(0) at the end", x.next(0), -2);
    Check.run(x, "e=q");
    Check.due("next(0) is the renamed entry", x.next(0), 8);
  }

  /** "a" to "d" share the leaf of the hashes 32 to 39, "e" and "f" that of 40 to 47. */
  private static void promise8ReadLeaf() {
    HashedDirectory x = Check.with("a", "b", "c", "d", "e", "f");
    x.open(1);
    Check.due("readLeaf(1)", x.readLeaf(1), 4);
    Check.due("position(1)", x.position(1), 39003);
    Check.due("readLeaf(1)", x.readLeaf(1), 2);
    Check.due("position(1)", x.position(1), 41005);
    Check.due("readLeaf(1) at the end", x.readLeaf(1), 0);
    Check.due("position(1) at the end", x.position(1), 41005);
    Check.due("savedStates()", x.savedStates(), 6);
    x.undo();
    Check.due("position(1) behind undo()", x.position(1), 41005);
    x.undo();
    Check.due("position(1) behind undo()", x.position(1), 39003);
  }

  private static void promise8ReadLeafOfOtherLeaves() {
    HashedDirectory x = Check.with("a", "b", "c", "d", "e", "z");
    x.open(0);
    x.seek(0, 37001);
    Check.due("readLeaf(0) from the middle of a leaf", x.readLeaf(0), 2);
    Check.due("position(0)", x.position(0), 39003);
    x.seek(0, 40004);
    Check.due("readLeaf(0) over an empty gap", x.readLeaf(0), 1);
    Check.due("position(0)", x.position(0), 61005);
    HashedDirectory y = Check.with("a", "z");
    y.open(0);
    Check.due("readLeaf(0) of the root", y.readLeaf(0), 2);
    Check.due("position(0)", y.position(0), 61001);
    HashedDirectory z = new HashedDirectory();
    z.open(0);
    Check.due("readLeaf(0) of an empty directory", z.readLeaf(0), 0);
    Check.due("position(0)", z.position(0), -1);
    Check.due("savedStates() of a call that changed nothing", z.savedStates(), 2);
  }

  private static void promise9Seek() {
    HashedDirectory x = Check.with("a", "b");
    x.open(0);
    Check.due("seek(0, 0)", x.seek(0, 0), -1);
    Check.due("seek(0, 63999)", x.seek(0, 63999), 0);
    Check.due("next(0) behind all keys", x.next(0), -2);
    Check.due("seek(0, 36000)", x.seek(0, 36000), 63999);
    Check.due("next(0) behind the key of a", x.next(0), 1);
    Check.due("seek(0, 35999)", x.seek(0, 35999), 37001);
    Check.due("next(0) before the key of a", x.next(0), 0);
    Check.due("seek(0, START)", x.seek(0, HashedDirectory.START), 36000);
    Check.due("position(0)", x.position(0), -1);
    x.undo();
    Check.due("position(0) behind undo()", x.position(0), 36000);
    int saved = x.savedStates();
    x.undo();
    x.seek(0, 35999);
    Check.due("savedStates() of a call that changed nothing", x.savedStates(), saved);
  }

  private static void promise9SeekWrong() {
    int[] positions = {-2, -3, 64000, Integer.MIN_VALUE, Integer.MAX_VALUE};
    for (int position : positions) {
      HashedDirectory x = new HashedDirectory();
      x.open(0);
      String at = position + ")";
      Check.dueThrow(x, "seek(0, " + at, ARGUMENT, () -> x.seek(0, position));
      Check.dueThrow(x, "seek(1, " + at, ARGUMENT, () -> x.seek(1, position));
      Check.dueThrow(x, "seek(4, " + at, INDEX, () -> x.seek(4, position));
      Check.dueThrow(x, "seek(-1, " + at, INDEX, () -> x.seek(-1, position));
      Check.dueThrow(x, "seek(1, 5)", STATE, () -> x.seek(1, 5));
    }
  }

  private static void promise31Position() {
    HashedDirectory x = Check.with("a");
    x.open(1);
    Check.due("position(0) of a closed reader", x.position(0), -2);
    Check.due("position(1) of a new reader", x.position(1), -1);
    x.seek(1, 17);
    Check.due("position(1)", x.position(1), 17);
    x.next(1);
    Check.due("position(1)", x.position(1), 36000);
    x.close(1);
    Check.due("position(1) of a closed reader", x.position(1), -2);
  }

  private static void promise32Peek() {
    HashedDirectory x = Check.with("b", "a");
    Check.due("peek(0) of a closed reader", x.peek(0), -2);
    x.open(0);
    String before = Check.look(x);
    Check.due("peek(0)", x.peek(0), 1);
    Check.due("peek(0) again", x.peek(0), 1);
    Check.due("a look behind peek(0)", Check.look(x), before);
    x.seek(0, 36001);
    Check.due("peek(0)", x.peek(0), 0);
    x.seek(0, 37000);
    Check.due("peek(0) at the end", x.peek(0), -2);
    x.seek(0, -1);
    x.close(0);
    Check.due("peek(0) of a closed reader", x.peek(0), -2);
  }

  private static void promise33Remaining() {
    HashedDirectory x = Check.with("b", "a", "c");
    Check.due("remaining(0) of a closed reader", x.remaining(0), -2);
    x.open(0);
    Check.due("remaining(0)", x.remaining(0), 3);
    x.seek(0, 36000);
    Check.due("remaining(0)", x.remaining(0), 3);
    x.seek(0, 36001);
    Check.due("remaining(0)", x.remaining(0), 2);
    x.seek(0, 38001);
    Check.due("remaining(0)", x.remaining(0), 1);
    x.seek(0, 38002);
    Check.due("remaining(0) at the end", x.remaining(0), 0);
    x.close(0);
    Check.due("remaining(0) of a closed reader", x.remaining(0), -2);
  }

  private static void noSuchReader() {
    for (int reader : NO_READERS) {
      HashedDirectory x = Check.with("a");
      String of = "(" + reader + ")";
      Check.dueThrow(x, "open" + of, INDEX, () -> x.open(reader));
      Check.dueThrow(x, "close" + of, INDEX, () -> x.close(reader));
      Check.dueThrow(x, "next" + of, INDEX, () -> x.next(reader));
      Check.dueThrow(x, "readLeaf" + of, INDEX, () -> x.readLeaf(reader));
      Check.dueThrow(x, "seek" + of, INDEX, () -> x.seek(reader, 0));
      Check.dueThrow(x, "position" + of, INDEX, () -> x.position(reader));
      Check.dueThrow(x, "peek" + of, INDEX, () -> x.peek(reader));
      Check.dueThrow(x, "remaining" + of, INDEX, () -> x.remaining(reader));
    }
  }

  private static void closedReader() {
    for (int number = 0; number < 4; number++) {
      HashedDirectory x = Check.with("a");
      int reader = number;
      String of = "(" + reader + ") of a closed reader";
      Check.dueThrow(x, "close" + of, STATE, () -> x.close(reader));
      Check.dueThrow(x, "next" + of, STATE, () -> x.next(reader));
      Check.dueThrow(x, "readLeaf" + of, STATE, () -> x.readLeaf(reader));
      Check.dueThrow(x, "seek" + of, STATE, () -> x.seek(reader, 0));
      x.open(reader);
      x.close(reader);
      Check.dueThrow(x, "next" + of, STATE, () -> x.next(reader));
    }
  }
}
