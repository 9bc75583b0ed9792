import java.util.HashMap;
import java.util.Map;

/**
 * Sentences that tell what an answer is for all cases: each is tried on every small case, and what
 * is due is found here by the words of the sentence or by other calls, not by a model.
 */
public final class DefinitionsTest {
  private static final String[] SIGNS = {"a", "+", "-", "=", ";", "!"};
  private static final String[] PIECES = {"a", "zzzzz", "abcdef", "+", "=", ";"};
  /** Valid texts that begin with a text, if there are any, come of one of these behind it. */
  private static final String[] ENDS = {"", "a", "=a", "+a"};

  private static final Map<String, Boolean> BEGINNINGS = new HashMap<>();

  private DefinitionsTest() {}

  public static void main(String[] args) {
    theErrorPositionOfEachShortText();
    theErrorPositionBehindLongerNames();
    theHashOfEachShortName();
    theOrderIsThatOfTheKeys();
    theDepthsMakeATree();
    leavesIfAddedTellsWhatAddDoes();
    runTextDoesAsTheCallsDo();
    readLeafDoesAsNextDoes();
    aReaderReadsWhatStaysOnce();
    objectsDoNotShareAnything();
    Check.finish("DefinitionsTest");
  }

  private static boolean isValid(String text) {
    for (String command : text.split(";", -1)) {
      if (!command.matches("[+-][a-z]{1,6}|[a-z]{1,6}=[a-z]{1,6}")) {
        return false;
      }
    }
    return true;
  }

  private static boolean isBeginning(String text) {
    Boolean known = BEGINNINGS.get(text);
    if (known == null) {
      known = false;
      for (String end : ENDS) {
        known = known || isValid(text + end);
      }
      BEGINNINGS.put(text, known);
    }
    return known;
  }

  private static int errorPosition(String text) {
    if (isValid(text)) {
      return -2;
    }
    for (int i = 0; i < text.length(); i++) {
      if (!isBeginning(text.substring(0, i + 1))) {
        return i;
      }
    }
    return text.length();
  }

  private static void dueErrorPosition(String text) {
    HashedDirectory x = new HashedDirectory();
    Check.type(x, text);
    int due = errorPosition(text);
    Check.due("errorPosition() of '" + text + "'", x.errorPosition(), due);
    Check.due("runText() of '" + text + "'",
        Check.answer(x::runText).equals(Check.ARGUMENT), due != -2);
  }

  private static void dueErrorPositions(String begin, String[] pieces, int more) {
    dueErrorPosition(begin);
    for (int i = 0; more > 0 && i < pieces.length; i++) {
      dueErrorPositions(begin + pieces[i], pieces, more - 1);
    }
  }

  /** "the smallest index i such that no valid commands of any length begin with ... 0 to i". */
  private static void theErrorPositionOfEachShortText() {
    dueErrorPositions("", SIGNS, 6);
  }

  private static void theErrorPositionBehindLongerNames() {
    dueErrorPositions("", PIECES, 5);
  }

  /** "it is 7 at first; for each letter ..., from the first one to the last one, ...". */
  private static void theHashOfEachShortName() {
    for (char first = 'a'; first <= 'z'; first++) {
      int one = (5 * 7 + first - 'a' + 1) % 64;
      dueHash("" + first, one);
      for (char second = 'a'; second <= 'z'; second++) {
        int two = (5 * one + second - 'a' + 1) % 64;
        dueHash("" + first + second, two);
        dueHash("" + first + second + "m", (5 * two + 13) % 64);
      }
    }
  }

  private static void dueHash(String name, int hash) {
    HashedDirectory x = new HashedDirectory();
    Check.type(x, name);
    Check.due("hashOfText() of " + name, x.hashOfText(), hash);
    x.add();
    Check.due("hashOf() of " + name, x.hashOf(0), hash);
  }

  /** Trees of several shapes: new, of few and of many entries, deep, and with empty leaves. */
  private static Twins.Setup[] trees() {
    return new Twins.Setup[] {
      HashedDirectory::new,
      () -> Check.with("a", "b", "c", "d"),
      () -> Check.with("a", "b", "c", "d", "e"),
      () -> of("-a;-b", "a", "b", "c", "d", "e"),
      () -> of("-a;-b;-c", "a", "b", "c", "d", "e"),
      () -> of("a=al;b=ak", "a", "b", "c", "d", "e"),
      () -> Samples.filled(12),
      () -> Samples.filled(39),
      () -> of("+al", Samples.namesWithHash(63, 7)),
      () -> of("+ak", Samples.namesWithHash(0, 5)),
      () -> of("+ak;+al", Samples.namesWithHash(21, 4)),
      () -> of("+a;+b;+c;+d;+ak;+al", Samples.namesWithHash(31, 4))
    };
  }

  private static HashedDirectory of(String text, String... names) {
    HashedDirectory x = new HashedDirectory();
    Samples.addAll(x, names);
    Check.due("runText() of " + text + " does something", Check.run(x, text) > 0, true);
    x.clearText();
    return x;
  }

  /** "The order of the entries is the ascending order of their keys." */
  private static void theOrderIsThatOfTheKeys() {
    for (Twins.Setup tree : trees()) {
      HashedDirectory x = tree.make();
      int before = -1;
      for (int place = 0; place < x.entries(); place++) {
        int key = 1000 * x.hashOf(x.idAt(place)) + x.idAt(place);
        Check.due("the key at " + place + " is greater", key > before, true);
        before = key;
      }
      Check.due("idAt() behind the last one", x.idAt(x.entries()), -2);
    }
  }

  /**
   * "The leaf of a hash is the one to which one comes from the root in this way": the hashes of a
   * leaf of the depth d are those with the same d highest bits.
   */
  private static void theDepthsMakeATree() {
    for (Twins.Setup tree : trees()) {
      HashedDirectory x = tree.make();
      HashedDirectory y = tree.make();
      int leaves = 0;
      int entries = 0;
      for (int hash = 0; hash < 64; hash += 64 >> x.depthOf(hash)) {
        int depth = x.depthOf(hash);
        int size = 0;
        for (int i = hash; i < hash + (64 >> depth); i++) {
          Check.due("depthOf(" + i + ")", y.depthOf(i), depth);
          size += y.withHash(i);
        }
        Check.due("leafSize(" + hash + ")", x.leafSize(hash), size);
        Check.due("a leaf of " + size + " is not split", depth == 6 || size <= 4, true);
        leaves++;
        entries += size;
      }
      Check.due("leaves()", x.leaves(), leaves);
      Check.due("leaves() by splits and merges", 1 + x.splits() - x.merges(), leaves);
      Check.due("entries()", x.entries(), entries);
      Check.due("meanLeafSize()", x.meanLeafSize(), (float) entries / (float) leaves);
    }
  }

  /** "how many leaves there would be if the name in the text buffer was added", of each hash. */
  private static void leavesIfAddedTellsWhatAddDoes() {
    for (Twins.Setup tree : trees()) {
      for (int hash = 0; hash < 64; hash++) {
        HashedDirectory x = tree.make();
        int leaves = x.leaves();
        String[] names = Samples.namesWithHash(hash, 41);
        Check.type(x, names[40]);
        int told = x.leavesIfAdded();
        Check.due("leaves() behind leavesIfAdded()", x.leaves(), leaves);
        x.add();
        Check.due("leaves() behind add() of " + names[40], x.leaves(), told);
      }
    }
  }

  /** "as add(), remove() and rename() do with the names of the commands" */
  private static void runTextDoesAsTheCallsDo() {
    String[] names = {"a", "b", "e", "al", "ak", "zz", "abcdef"};
    for (Twins.Setup tree : trees()) {
      for (String name : names) {
        dueAsCalls(tree, "+" + name, x -> typed(x, name).add());
        dueAsCalls(tree, "-" + name, x -> x.remove(typed(x, name).find()));
        for (String other : names) {
          dueAsCalls(tree, name + "=" + other, x -> rename(x, name, other));
        }
      }
    }
  }

  private static Object rename(HashedDirectory x, String name, String other) {
    int id = typed(x, name).find();
    return typed(x, other).rename(id);
  }

  private static HashedDirectory typed(HashedDirectory x, String text) {
    Check.type(x, text);
    return x;
  }

  private static void dueAsCalls(Twins.Setup setup, String command, Twins.Use call) {
    for (Look.Part part : Look.PARTS) {
      HashedDirectory x = setup.make();
      HashedDirectory twin = setup.make();
      x.open(0);
      twin.open(0);
      int executed = Check.run(x, command);
      boolean refused = Check.answer(() -> call.on(twin)).startsWith("throws.");
      Check.due("runText() of " + command, executed, refused ? 0 : 1);
      if (refused) {
        twin.open(0);
      }
      x.clearText();
      twin.clearText();
      Check.due("a look behind " + command, part.of(x), part.of(twin));
    }
  }

  /** "all entries from the next entry of a reader to the last entry of the leaf that holds it". */
  private static void readLeafDoesAsNextDoes() {
    for (Twins.Setup tree : trees()) {
      HashedDirectory x = tree.make();
      x.open(0);
      x.open(1);
      for (int left = x.entries(); left > 0; left = x.remaining(0)) {
        int hash = x.hashOf(x.peek(0));
        int read = x.readLeaf(0);
        Check.due("readLeaf(0) of a whole leaf", read, x.leafSize(hash));
        for (int i = 0; i < read; i++) {
          x.next(1);
        }
        Check.due("position(0)", x.position(0), x.position(1));
      }
      Check.due("readLeaf(0) behind the last one", x.readLeaf(0), 0);
    }
  }

  /**
   * "a position that stays valid while names come and go and while the tree is split and merged":
   * entries that stay are read once each, in their order, while others come and go beside them.
   */
  private static void aReaderReadsWhatStaysOnce() {
    HashedDirectory x = new HashedDirectory();
    for (int hash = 59; hash >= 3; hash -= 8) {
      Check.add(x, Samples.nameWithHash(hash));
    }
    x.open(2);
    StringBuilder read = new StringBuilder();
    for (int step = 0; x.peek(2) != -2 && step < 40; step++) {
      int before = x.position(2);
      String[] names = Samples.namesWithHash(3 + 8 * (step % 8), 4);
      String come = names[1] + ";+" + names[2] + ";+" + names[3];
      Check.due("runText()", Check.run(x, "+" + come), 3);
      Check.due("position(2)", x.position(2), before);
      int id = x.next(2);
      Check.due("the key is greater", x.position(2) > before, true);
      read.append(id < 8 ? id + " " : "");
      Check.run(x, "-" + come.replace('+', '-'));
    }
    Check.due("the entries that stayed", read.toString(), "7 6 5 4 3 2 1 0 ");
    Check.due("splits were made", x.splits() > 0, true);
    Check.due("merges were made", x.merges() > 0, true);
  }

  /** An object is asked while another one has a full directory, a full slot, readers and a text. */
  private static void objectsDoNotShareAnything() {
    for (Look.Part part : Look.PARTS) {
      String alone = part.of(Samples.busy("z"));
      HashedDirectory x = Samples.busy("z");
      HashedDirectory other = Samples.filled(40);
      other.save(1);
      other.open(3);
      Check.type(other, "+q");
      Check.due("a look behind calls of another object", part.of(x), alone);
      Check.due("restore(1) of the other's slot", Check.answer(() -> x.restore(1)), Check.STATE);
    }
  }
}
