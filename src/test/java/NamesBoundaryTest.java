import java.util.Arrays;

/** Terms 1 and 4: names, entries, ids, hashes and keys, at each bound and just beyond it. */
public final class NamesBoundaryTest {
  private NamesBoundaryTest() {}

  public static void main(String[] args) {
    aNameHasOneToSixLetters();
    aLetterIsFromAToZ();
    eachLetterOfANameTells();
    fortyEntriesByAdd();
    fortyEntriesByText();
    fortyEntriesAndRename();
    fortyEntriesInTheOrder();
    namesOfAllEntriesAreDifferent();
    aNameIsFreeBehindItsEntry();
    idsBeginAtZero();
    anIdIsNeverGivenTwice();
    aRenamedEntryHasTheNextId();
    refusedCallsGiveNoId();
    thousandIdsByAdd();
    thousandIdsByRename();
    thousandIdsByText();
    thousandIdsLeaveOtherCalls();
    theHashIsSevenAtFirst();
    theRemainderWraps();
    theRemainderWrapsWithEachLetter();
    aHashIsFromZeroToSixtyThree();
    aKeyHasItsHashFirst();
    aKeyHasItsIdNext();
    removingLeavesNone();
    lettersOfAName();
    indexesInTheOrder();
    Check.finish("NamesBoundaryTest");
  }

  /** The only other entry is "qq", which is not among the names that are tried. */
  private static void isName(String text) {
    HashedDirectory x = Check.with("qq");
    Check.type(x, text);
    Check.due("hashOfText() of " + text, x.hashOfText(), Model.hash(text));
    Check.due("find() of " + text, x.find(), -2);
    Check.due("leavesIfAdded() of " + text, x.leavesIfAdded(), 1);
    Check.due("add() of " + text, x.add(), 1);
    Check.due("the name behind add()", Check.nameOf(x, 1), text);
    HashedDirectory y = Check.with("qq");
    Check.type(y, text);
    Check.due("rename(0) to " + text, y.rename(0), 1);
    Check.due("the name behind rename(0)", Check.nameOf(y, 1), text);
    Check.type(y, text);
    Check.due("find() of " + text, y.find(), 1);
  }

  private static void isNoName(String text) {
    HashedDirectory x = Check.with("q");
    Check.type(x, text);
    Check.due("hashOfText() of " + text, Check.answer(x::hashOfText), Check.ARGUMENT);
    Check.due("find() of " + text, Check.answer(x::find), Check.ARGUMENT);
    Check.due("leavesIfAdded() of " + text, Check.answer(x::leavesIfAdded), Check.ARGUMENT);
    Check.due("add() of " + text, Check.answer(x::add), Check.ARGUMENT);
    Check.due("rename(0) to " + text, Check.answer(() -> x.rename(0)), Check.ARGUMENT);
  }

  /** "A name consists of 1 to 6 ... letters": none are too few, seven too many. */
  private static void aNameHasOneToSixLetters() {
    isNoName("");
    isName("a");
    isName("abcdef");
    isNoName("abcdefg");
    isName("z");
    isName("zzzzzz");
    isNoName("zzzzzzz");
    isNoName("a".repeat(80));
  }

  /** "lowercase letters from "a" to "z"": the codes 97 to 122, at the first place and the last. */
  private static void aLetterIsFromAToZ() {
    for (char code = 32; code <= 126; code++) {
      String[] texts = {"" + code, code + "bbbbb", "bbbbb" + code};
      for (String text : texts) {
        if (code >= 97 && code <= 122) {
          isName(text);
        } else {
          isNoName(text);
        }
      }
    }
  }

  /** Names that have one letter in another way, more or fewer, or in another order. */
  private static void eachLetterOfANameTells() {
    String[] names = {
      "abcdef", "bbcdef", "aacdef", "abbdef", "abccef", "abcddf", "abcdee", "abcde", "a", "aa",
      "aaaaaa", "ab", "ba"
    };
    HashedDirectory x = new HashedDirectory();
    Samples.addAll(x, names);
    for (int id = 0; id < names.length; id++) {
      Check.type(x, names[id]);
      Check.due("find() of " + names[id], x.find(), id);
    }
  }

  /** "The directory holds at most 40 entries." */
  private static void fortyEntriesByAdd() {
    HashedDirectory x = Samples.filled(39);
    Check.type(x, "zz");
    Check.due("leavesIfAdded() of the 40th", x.leavesIfAdded(), 13);
    Check.due("add() of the 40th", x.add(), 39);
    Check.due("entries()", x.entries(), 40);
    Check.due("leaves()", x.leaves(), 13);
    Check.type(x, "zy");
    Check.due("leavesIfAdded() of the 41st", Check.answer(x::leavesIfAdded), Check.STATE);
    Check.due("add() of the 41st", Check.answer(x::add), Check.STATE);
    Check.due("entries()", x.entries(), 40);
    x.remove(0);
    Check.due("add() behind remove()", x.add(), 40);
    Check.due("entries()", x.entries(), 40);
  }

  private static void fortyEntriesByText() {
    HashedDirectory x = Samples.filled(39);
    Check.due("runText() of the 40th and 41st", Check.run(x, "+zz;+zy"), 1);
    Check.due("entries()", x.entries(), 40);
    Check.due("runText() of the 41st", Check.run(x, "+zy;-a"), 0);
    Check.due("runText() behind a remove", Check.run(x, "-a;+zy;+zx"), 2);
    Check.due("entries()", x.entries(), 40);
  }

  /** Promise 4 names no limit of 40: the entry that is renamed makes room for itself. */
  private static void fortyEntriesAndRename() {
    HashedDirectory x = Samples.filled(40);
    Check.type(x, "zz");
    Check.due("rename(0) of 40 entries", x.rename(0), 40);
    Check.due("runText() of renames", Check.run(x, "zz=zy;b=zz;+a"), 2);
    Check.due("entries()", x.entries(), 40);
  }

  private static void fortyEntriesInTheOrder() {
    HashedDirectory x = Samples.filled(40);
    int[] hashes = new int[40];
    for (int place = 0; place < 40; place++) {
      hashes[place] = x.hashOf(x.idAt(place));
    }
    int[] sorted = hashes.clone();
    Arrays.sort(sorted);
    Check.due("the hashes", Arrays.toString(hashes), Arrays.toString(sorted));
    Check.due("idAt(39) is bf, of the hash 63", x.idAt(39), 31);
    Check.due("idAt(40)", x.idAt(40), -2);
  }

  /** "the names of all entries are different" */
  private static void namesOfAllEntriesAreDifferent() {
    HashedDirectory x = Check.with("ab", "c");
    Check.type(x, "ab");
    Check.due("add() of a taken name", Check.answer(x::add), Check.STATE);
    Check.due("leavesIfAdded() of it", Check.answer(x::leavesIfAdded), Check.STATE);
    Check.due("rename(1) to it", Check.answer(() -> x.rename(1)), Check.STATE);
    Check.due("rename(0) to its own", Check.answer(() -> x.rename(0)), Check.STATE);
    Check.due("runText() of all of them", Check.run(x, "+ab"), 0);
    Check.due("runText() of all of them", Check.run(x, "c=ab"), 0);
    Check.due("runText() of all of them", Check.run(x, "ab=ab"), 0);
    Check.due("the ids", Check.ids(x), "1 0");
  }

  private static void aNameIsFreeBehindItsEntry() {
    HashedDirectory x = Check.with("ab");
    x.remove(0);
    Check.due("add() behind remove()", Check.add(x, "ab"), 1);
    Check.type(x, "c");
    x.rename(1);
    Check.due("add() behind rename()", Check.add(x, "ab"), 3);
    x.undo();
    Check.due("add() behind undo()", Check.add(x, "ab"), 3);
    Check.due("runText() that frees it", Check.run(x, "-ab;+ab;ab=d;+ab"), 4);
  }

  /** "Ids are given in ascending order, from 0 on, when entries are made" */
  private static void idsBeginAtZero() {
    HashedDirectory x = new HashedDirectory();
    Check.due("the first id", Check.add(x, "z"), 0);
    Check.due("the second id", Check.add(x, "a"), 1);
    Check.run(x, "+y;+b");
    Check.due("the ids", Check.ids(x), "1 3 2 0");
  }

  /** "an id is never given twice", not that of the last entry or of all entries either. */
  private static void anIdIsNeverGivenTwice() {
    HashedDirectory x = Check.with("a", "b", "c");
    x.remove(2);
    Check.due("the id behind remove() of the last one", Check.add(x, "c"), 3);
    x.remove(0);
    Check.due("the id behind remove() of the first one", Check.add(x, "a"), 4);
    Check.run(x, "-a;-b;-c");
    Check.due("the id of an empty directory", Check.add(x, "a"), 5);
  }

  /** Terms 4: "So its id and its place in the order change." */
  private static void aRenamedEntryHasTheNextId() {
    HashedDirectory x = Check.with("z", "a", "b");
    Check.type(x, "c");
    Check.due("rename(1)", x.rename(1), 3);
    Check.due("hashOf(1)", Check.answer(() -> x.hashOf(1)), Check.INDEX);
    Check.due("the ids", Check.ids(x), "2 3 0");
    Check.run(x, "c=a");
    Check.due("the ids behind the old name", Check.ids(x), "4 2 0");
  }

  private static void refusedCallsGiveNoId() {
    HashedDirectory x = Check.with("a", "b");
    Check.type(x, "b");
    Check.answer(x::add);
    Check.answer(() -> x.rename(0));
    Check.type(x, "B");
    Check.answer(x::add);
    Check.answer(() -> x.rename(0));
    Check.run(x, "+b;+c");
    Check.run(x, "a=b;+c");
    Check.run(x, "q=c;+d");
    Check.due("the next id", Check.add(x, "c"), 2);
  }

  /** "at most 1000 ids are given": the last one is 999. */
  private static void thousandIdsByAdd() {
    HashedDirectory x = Samples.spent(999);
    Check.type(x, "q");
    Check.due("leavesIfAdded() of the 1000th id", x.leavesIfAdded(), 1);
    Check.due("add() of the 1000th id", x.add(), 999);
    Check.type(x, "r");
    Check.due("leavesIfAdded() of one more", Check.answer(x::leavesIfAdded), Check.STATE);
    Check.due("add() of one more", Check.answer(x::add), Check.STATE);
    Check.due("entries()", x.entries(), 2);
  }

  private static void thousandIdsByRename() {
    HashedDirectory x = Samples.spent(999);
    Check.type(x, "q");
    Check.due("rename() to the 1000th id", x.rename(998), 999);
    Check.type(x, "r");
    Check.due("rename() to one more", Check.answer(() -> x.rename(999)), Check.STATE);
    Check.due("the name", Check.nameOf(x, 999), "q");
  }

  private static void thousandIdsByText() {
    HashedDirectory x = Samples.spent(999);
    Check.due("runText() of two adds", Check.run(x, "+q;+r"), 1);
    Check.due("the ids", Check.ids(x), "998 999");
    Check.due("runText() of an add", Check.run(x, "+r"), 0);
    x.undo();
    x.undo();
    Check.due("runText() of two renames", Check.run(x, "a=q;q=r"), 1);
    Check.due("the ids", Check.ids(x), "999");
    Check.due("runText() of a rename", Check.run(x, "q=r"), 0);
  }

  private static void thousandIdsLeaveOtherCalls() {
    HashedDirectory x = Samples.spent(1000);
    x.open(0);
    Check.due("next(0)", x.next(0), 999);
    Check.due("hashOf(999)", x.hashOf(999), 37);
    Check.due("hashOf(1000)", Check.answer(() -> x.hashOf(1000)), Check.INDEX);
    Check.type(x, "b");
    Check.due("find()", x.find(), 999);
    Check.due("runText() of a remove", Check.run(x, "-b;+b"), 1);
    Check.due("entries()", x.entries(), 0);
    x.undo();
    Check.due("remove(999)", x.remove(999), 0);
    Check.due("add() to no entries", Check.answer(() -> Check.add(x, "b")), Check.STATE);
  }

  private static void dueHash(String name, int hash) {
    HashedDirectory x = new HashedDirectory();
    Check.type(x, name);
    Check.due("hashOfText() of " + name, x.hashOfText(), hash);
    x.add();
    Check.due("hashOf(0) of " + name, x.hashOf(0), hash);
    Check.due("withHash() of " + name, x.withHash(hash), 1);
  }

  /** "it is 7 at first" and "n is 1 for "a", 2 for "b" and so on, 26 for "z"": 5 * 7 + n. */
  private static void theHashIsSevenAtFirst() {
    dueHash("a", 36);
    dueHash("b", 37);
    dueHash("m", 48);
    dueHash("y", 60);
    dueHash("z", 61);
  }

  /** "the remainder of 5 * hash + n divided by 64": 5 * 36 + n is 191, 192 and 193. */
  private static void theRemainderWraps() {
    dueHash("ak", 63);
    dueHash("al", 0);
    dueHash("am", 1);
  }

  /** 331, 81, 111, 261 and 51 behind the first letter: more than once around, once, and not. */
  private static void theRemainderWrapsWithEachLetter() {
    dueHash("zz", 11);
    dueHash("zzz", 17);
    dueHash("zzzz", 47);
    dueHash("zzzzz", 5);
    dueHash("zzzzzz", 51);
  }

  /** "So a hash is from 0 to 63." */
  private static void aHashIsFromZeroToSixtyThree() {
    HashedDirectory x = Check.with("al", "ak");
    int[] hashes = {0, 1, 62, 63};
    int[] entries = {1, 0, 0, 1};
    for (int i = 0; i < hashes.length; i++) {
      Check.due("withHash(" + hashes[i] + ")", x.withHash(hashes[i]), entries[i]);
    }
    Check.due("withHash(-1)", Check.answer(() -> x.withHash(-1)), Check.INDEX);
    Check.due("withHash(64)", Check.answer(() -> x.withHash(64)), Check.INDEX);
    HashedDirectory y = new HashedDirectory();
    Samples.addAll(y, Samples.namesWithHash(63, 40));
    Check.due("withHash(63) of 40 entries", y.withHash(63), 40);
    Check.due("withHash(62) of 40 entries", y.withHash(62), 0);
  }

  /**
   * "The key of an entry is 1000 * hash + id": the id 999 of the hash 37 is before the id 0 of the
   * hash 38, and behind the id 1 of its own hash. "fx" and "gs" have the hash 37.
   */
  private static void aKeyHasItsHashFirst() {
    HashedDirectory x = Check.with("c", "b", "fx");
    Check.type(x, "fx=gs;gs=fx;".repeat(6).substring(0, 71));
    for (int i = 0; i < 83; i++) {
      Check.due("runText() of 12 renames", x.runText(), 12);
    }
    Check.due("runText() of the last rename", Check.run(x, "fx=gs"), 1);
    Check.due("the ids", Check.ids(x), "1 999 0");
    Check.due("withHash(37)", x.withHash(37), 2);
    Check.due("withHash(38)", x.withHash(38), 1);
    x.open(0);
    x.seek(0, 37998);
    Check.due("next(0) behind 37998", x.next(0), 999);
    Check.due("position(0)", x.position(0), 37999);
    Check.due("next(0) behind 37999", x.next(0), 0);
    Check.due("position(0)", x.position(0), 38000);
  }

  /** Entries of one hash are in the order of their ids, and not of their names. */
  private static void aKeyHasItsIdNext() {
    HashedDirectory x = Check.with("gs", "fx", "b");
    Check.due("the ids", Check.ids(x), "0 1 2");
    Check.run(x, "gs=gs;b=a");
    Check.run(x, "gs=hn");
    Check.due("the ids behind a rename", Check.ids(x), "1 2 3");
    Check.due("hashOf(3)", x.hashOf(3), 37);
  }

  /** Promise 3: "the number of entries that are left", down to none. */
  private static void removingLeavesNone() {
    HashedDirectory x = Check.with("a", "b");
    Check.due("remove(1)", x.remove(1), 1);
    Check.due("remove(0)", x.remove(0), 0);
    Check.due("remove(0) again", Check.answer(() -> x.remove(0)), Check.INDEX);
    Check.due("entries()", x.entries(), 0);
    HashedDirectory y = Samples.filled(40);
    Check.due("remove(39) of 40", y.remove(39), 39);
  }

  /** Promise 22: "NONE if the name is not so long", from the first index behind it on. */
  private static void lettersOfAName() {
    HashedDirectory x = Check.with("z", "abcdez");
    Check.due("letterOf(0, 0)", x.letterOf(0, 0), 122);
    Check.due("letterOf(0, 1)", x.letterOf(0, 1), -2);
    Check.due("letterOf(1, 0)", x.letterOf(1, 0), 97);
    Check.due("letterOf(1, 5)", x.letterOf(1, 5), 122);
    Check.due("letterOf(1, 6)", x.letterOf(1, 6), -2);
    Check.due("letterOf(1, MAX_VALUE)", x.letterOf(1, Integer.MAX_VALUE), -2);
    Check.due("letterOf(1, -1)", Check.answer(() -> x.letterOf(1, -1)), Check.INDEX);
  }

  /** Promise 18: "NONE if there are not so many entries", "if the index is negative". */
  private static void indexesInTheOrder() {
    HashedDirectory x = new HashedDirectory();
    Check.due("idAt(0) of no entries", x.idAt(0), -2);
    Check.due("idAt(-1) of no entries", Check.answer(() -> x.idAt(-1)), Check.INDEX);
    Check.add(x, "b");
    Check.due("idAt(0)", x.idAt(0), 0);
    Check.due("idAt(1)", x.idAt(1), -2);
    Check.due("idAt(MAX_VALUE)", x.idAt(Integer.MAX_VALUE), -2);
    Check.due("idAt(-1)", Check.answer(() -> x.idAt(-1)), Check.INDEX);
  }
}
