/**
 * "queries change nothing": each query, asked three times, answers the same, and behind it every
 * query and every later call answers as if it had not been asked.
 */
public final class QueriesTest {
  private interface QueryOf {
    Object on(HashedDirectory x, int argument);
  }

  private static final int[] PLACES = {0, 2, 39, 40, -1};
  private static final int[] IDS = {0, 1, 4, 999, -1};
  private static final int[] INDEXES = {0, 5, 6, -1};
  private static final int[] HASHES = {0, 36, 63, -1, 64};
  private static final int[] READERS = {0, 1, 2, 3, -1, 4};

  private QueriesTest() {}

  public static void main(String[] args) {
    queriesAboutEntries();
    queriesAboutTheTree();
    queriesAboutReaders();
    queriesAboutTheText();
    Check.finish("QueriesTest");
  }

  /** A new object; a small one with a name and with commands as its text; a large one; an old. */
  private static void asked(String call, Twins.Use query) {
    asked(call + " of a new object", HashedDirectory::new, query);
    asked(call + " of a small object", () -> Samples.busy("z"), query);
    asked(call + " of a taken name", () -> Samples.busy("c"), query);
    asked(call + " of commands", () -> Samples.busy("+f;-a;c=g"), query);
    asked(call + " of a large object", () -> typed(Samples.filled(39), "zz"), query);
    asked(call + " of an old object", () -> typed(Samples.spent(999), "zz"), query);
  }

  private static HashedDirectory typed(HashedDirectory x, String text) {
    Check.type(x, text);
    return x;
  }

  private static void asked(String call, Twins.Setup setup, Twins.Use query) {
    String answer = answerOf(query, setup.make());
    Twins.unchanged("three times " + call, setup, x -> threeTimes(query, x),
        answer + answer + answer);
  }

  private static String threeTimes(Twins.Use query, HashedDirectory x) {
    return answerOf(query, x) + answerOf(query, x) + answerOf(query, x);
  }

  private static String answerOf(Twins.Use query, HashedDirectory x) {
    return Check.answer(() -> query.on(x)) + " ";
  }

  private static void askedOfEach(String call, int[] arguments, QueryOf query) {
    for (int argument : arguments) {
      asked(call + "(" + argument + ")", x -> query.on(x, argument));
    }
  }

  /** Promises 17 to 23. */
  private static void queriesAboutEntries() {
    asked("entries()", HashedDirectory::entries);
    askedOfEach("idAt", PLACES, HashedDirectory::idAt);
    asked("find()", HashedDirectory::find);
    asked("hashOfText()", HashedDirectory::hashOfText);
    askedOfEach("hashOf", IDS, HashedDirectory::hashOf);
    askedOfEach("letterOf index 0 of", IDS, (x, id) -> x.letterOf(id, 0));
    askedOfEach("letterOf 0 at", INDEXES, (x, index) -> x.letterOf(0, index));
    askedOfEach("withHash", HASHES, HashedDirectory::withHash);
  }

  /** Promises 24 to 30. */
  private static void queriesAboutTheTree() {
    asked("leaves()", HashedDirectory::leaves);
    askedOfEach("depthOf", HASHES, HashedDirectory::depthOf);
    askedOfEach("leafSize", HASHES, HashedDirectory::leafSize);
    asked("splits()", HashedDirectory::splits);
    asked("merges()", HashedDirectory::merges);
    asked("meanLeafSize()", HashedDirectory::meanLeafSize);
    asked("leavesIfAdded()", HashedDirectory::leavesIfAdded);
  }

  /** Promises 31 to 34. */
  private static void queriesAboutReaders() {
    askedOfEach("position", READERS, HashedDirectory::position);
    askedOfEach("peek", READERS, HashedDirectory::peek);
    askedOfEach("remaining", READERS, HashedDirectory::remaining);
    asked("savedStates()", HashedDirectory::savedStates);
  }

  /** Promises 35 and 12; errorPosition() "checks the text" and does no more. */
  private static void queriesAboutTheText() {
    asked("textLength()", HashedDirectory::textLength);
    asked("errorPosition()", HashedDirectory::errorPosition);
  }
}
