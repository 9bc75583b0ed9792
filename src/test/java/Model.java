import java.util.ArrayList;
import java.util.List;
import java.util.Map;
import java.util.TreeMap;
import java.util.TreeSet;
import java.util.regex.Matcher;
import java.util.regex.Pattern;

/** The document told a second time, by a tree of nodes, whole copies and regular expressions. */
final class Model {
  private static final String NAME = "[a-z]{1,6}";
  private static final String COMMAND = "([+-]" + NAME + "|" + NAME + "=" + NAME + ")";
  private static final Pattern COMMANDS = Pattern.compile(COMMAND + "(;" + COMMAND + ")*");

  private static final class Node {
    Node left;
    Node right;
    TreeSet<Integer> keys = new TreeSet<>();

    boolean isLeaf() {
      return left == null;
    }

    Node copy() {
      Node copy = new Node();
      copy.keys.addAll(keys);
      if (!isLeaf()) {
        copy.left = left.copy();
        copy.right = right.copy();
      }
      return copy;
    }

    int leaves() {
      return isLeaf() ? 1 : left.leaves() + right.leaves();
    }

    Node child(int hash, int depth) {
      return (hash >> 5 - depth & 1) == 0 ? left : right;
    }
  }

  private static final class State {
    TreeMap<Integer, String> names = new TreeMap<>();
    Node root = new Node();
    int[] readers = {-2, -2, -2, -2};
    int ids = 0;
    int splits = 0;
    int merges = 0;

    State copy() {
      State copy = new State();
      copy.names.putAll(names);
      copy.root = root.copy();
      copy.readers = readers.clone();
      copy.ids = ids;
      copy.splits = splits;
      copy.merges = merges;
      return copy;
    }

    Integer keyOfName(String name) {
      for (Map.Entry<Integer, String> entry : names.entrySet()) {
        if (entry.getValue().equals(name)) {
          return entry.getKey();
        }
      }
      return null;
    }

    int make(String name) {
      int hash = hash(name);
      names.put(1000 * hash + ids, name);
      Node leaf = root;
      int depth = 0;
      while (!leaf.isLeaf()) {
        leaf = leaf.child(hash, depth++);
      }
      leaf.keys.add(1000 * hash + ids);
      while (leaf.keys.size() > 4 && depth < 6) {
        leaf.left = new Node();
        leaf.right = new Node();
        for (int key : leaf.keys) {
          leaf.child(key / 1000, depth).keys.add(key);
        }
        leaf.keys.clear();
        splits++;
        leaf = leaf.child(hash, depth++);
      }
      return ids++;
    }

    void drop(int key) {
      names.remove(key);
      List<Node> way = new ArrayList<>();
      Node node = root;
      while (!node.isLeaf()) {
        way.add(node);
        node = node.child(key / 1000, way.size() - 1);
      }
      node.keys.remove(key);
      for (int i = way.size() - 1; i >= 0; i--) {
        Node parent = way.get(i);
        if (!parent.left.isLeaf() || !parent.right.isLeaf()
            || parent.left.keys.size() + parent.right.keys.size() > 2) {
          return;
        }
        parent.keys.addAll(parent.left.keys);
        parent.keys.addAll(parent.right.keys);
        parent.left = null;
        parent.right = null;
        merges++;
      }
    }
  }

  private State state = new State();
  private final List<State> saved = new ArrayList<>();
  private final State[] slots = new State[2];
  private String text = "";

  static int hash(String name) {
    int hash = 7;
    for (char letter : name.toCharArray()) {
      hash = (5 * hash + letter - 'a' + 1) % 64;
    }
    return hash;
  }

  private void undoable() {
    saved.add(state.copy());
    if (saved.size() > 6) {
      saved.remove(0);
    }
  }

  private static void index(boolean good) {
    if (!good) {
      throw new IndexOutOfBoundsException();
    }
  }

  private static void argument(boolean good) {
    if (!good) {
      throw new IllegalArgumentException();
    }
  }

  private static void stands(boolean good) {
    if (!good) {
      throw new IllegalStateException();
    }
  }

  private void reader(int reader) {
    index(reader >= 0 && reader <= 3);
  }

  private int key(int id) {
    for (int key : state.names.keySet()) {
      if (key % 1000 == id) {
        return key;
      }
    }
    throw new IndexOutOfBoundsException();
  }

  private String name() {
    argument(text.matches(NAME));
    return text;
  }

  private boolean addable(String name) {
    return state.names.size() < 40 && renamable(name);
  }

  private boolean renamable(String name) {
    return state.ids < 1000 && state.keyOfName(name) == null;
  }

  private Integer nextKey(int reader) {
    return state.names.higherKey(state.readers[reader]);
  }

  private Node leaf(int hash) {
    Node node = state.root;
    for (int depth = 0; !node.isLeaf(); depth++) {
      node = node.child(hash, depth);
    }
    return node;
  }

  int add() {
    String name = name();
    stands(addable(name));
    undoable();
    text = "";
    return state.make(name);
  }

  int remove(int id) {
    int key = key(id);
    undoable();
    state.drop(key);
    return state.names.size();
  }

  int rename(int id) {
    int key = key(id);
    String name = name();
    stands(renamable(name));
    undoable();
    text = "";
    state.drop(key);
    return state.make(name);
  }

  int open(int reader) {
    reader(reader);
    undoable();
    state.readers[reader] = -1;
    int open = 0;
    for (int position : state.readers) {
      open += position == -2 ? 0 : 1;
    }
    return open;
  }

  int close(int reader) {
    reader(reader);
    stands(state.readers[reader] != -2);
    undoable();
    int old = state.readers[reader];
    state.readers[reader] = -2;
    return old;
  }

  int next(int reader) {
    reader(reader);
    stands(state.readers[reader] != -2);
    undoable();
    Integer key = nextKey(reader);
    if (key == null) {
      return -2;
    }
    state.readers[reader] = key;
    return key % 1000;
  }

  int readLeaf(int reader) {
    reader(reader);
    stands(state.readers[reader] != -2);
    undoable();
    Integer key = nextKey(reader);
    if (key == null) {
      return 0;
    }
    TreeSet<Integer> keys = leaf(key / 1000).keys;
    state.readers[reader] = keys.last();
    return keys.tailSet(key).size();
  }

  int seek(int reader, int position) {
    reader(reader);
    argument(position >= -1 && position <= 63999);
    stands(state.readers[reader] != -2);
    undoable();
    int old = state.readers[reader];
    state.readers[reader] = position;
    return old;
  }

  int appendText(int character) {
    argument(character >= 32 && character <= 126);
    stands(text.length() < 80);
    text += (char) character;
    return text.length();
  }

  int clearText() {
    int old = text.length();
    text = "";
    return old;
  }

  int errorPosition() {
    if (COMMANDS.matcher(text).matches()) {
      return -2;
    }
    for (int i = 0; i < text.length(); i++) {
      Matcher matcher = COMMANDS.matcher(text.substring(0, i + 1));
      if (!matcher.matches() && !matcher.hitEnd()) {
        return i;
      }
    }
    return text.length();
  }

  int runText() {
    argument(errorPosition() == -2);
    undoable();
    int executed = 0;
    for (String command : text.split(";")) {
      if (!executes(command)) {
        return executed;
      }
      executed++;
    }
    return executed;
  }

  private boolean executes(String command) {
    int sign = command.indexOf('=');
    String newName = command.substring(sign < 0 ? 1 : sign + 1);
    if (command.startsWith("+")) {
      if (!addable(newName)) {
        return false;
      }
      state.make(newName);
      return true;
    }
    Integer key = state.keyOfName(sign < 0 ? newName : command.substring(0, sign));
    if (key == null || sign >= 0 && !renamable(newName)) {
      return false;
    }
    state.drop(key);
    if (sign >= 0) {
      state.make(newName);
    }
    return true;
  }

  int undo() {
    stands(!saved.isEmpty());
    state = saved.remove(saved.size() - 1);
    return saved.size();
  }

  int save(int slot) {
    index(slot == 0 || slot == 1);
    slots[slot] = state.copy();
    return state.names.size();
  }

  int restore(int slot) {
    index(slot == 0 || slot == 1);
    stands(slots[slot] != null);
    undoable();
    state = slots[slot].copy();
    return state.names.size();
  }

  int entries() {
    return state.names.size();
  }

  int idAt(int index) {
    index(index >= 0);
    List<Integer> keys = new ArrayList<>(state.names.keySet());
    return index < keys.size() ? keys.get(index) % 1000 : -2;
  }

  int find() {
    Integer key = state.keyOfName(name());
    return key == null ? -2 : key % 1000;
  }

  int hashOfText() {
    return hash(name());
  }

  int hashOf(int id) {
    return key(id) / 1000;
  }

  int letterOf(int id, int index) {
    String name = state.names.get(key(id));
    index(index >= 0);
    return index < name.length() ? name.charAt(index) : -2;
  }

  int withHash(int hash) {
    index(hash >= 0 && hash <= 63);
    return state.names.subMap(1000 * hash, 1000 * hash + 1000).size();
  }

  int leaves() {
    return state.root.leaves();
  }

  int depthOf(int hash) {
    index(hash >= 0 && hash <= 63);
    int depth = 0;
    for (Node node = state.root; !node.isLeaf(); node = node.child(hash, depth++)) {
      continue;
    }
    return depth;
  }

  int leafSize(int hash) {
    index(hash >= 0 && hash <= 63);
    return leaf(hash).keys.size();
  }

  int splits() {
    return state.splits;
  }

  int merges() {
    return state.merges;
  }

  float meanLeafSize() {
    return (float) entries() / (float) leaves();
  }

  int leavesIfAdded() {
    String name = name();
    stands(addable(name));
    State grown = state.copy();
    grown.make(name);
    return grown.root.leaves();
  }

  int position(int reader) {
    reader(reader);
    return state.readers[reader];
  }

  int peek(int reader) {
    reader(reader);
    Integer key = nextKey(reader);
    return state.readers[reader] == -2 || key == null ? -2 : key % 1000;
  }

  int remaining(int reader) {
    reader(reader);
    int position = state.readers[reader];
    return position == -2 ? -2 : state.names.tailMap(position, false).size();
  }

  int savedStates() {
    return saved.size();
  }

  int textLength() {
    return text.length();
  }
}
