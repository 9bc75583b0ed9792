import java.io.IOException;
import java.lang.reflect.Constructor;
import java.lang.reflect.Field;
import java.lang.reflect.Method;
import java.lang.reflect.Modifier;
import java.nio.file.Files;
import java.nio.file.Path;
import java.util.ArrayList;
import java.util.Arrays;
import java.util.List;
import java.util.TreeSet;
import java.util.regex.Matcher;
import java.util.regex.Pattern;
import java.util.stream.Collectors;

/** The public face is the document's, and nothing else can be seen from outside. */
public final class FaceTest {
  private static final Pattern PUBLIC_CALL = Pattern.compile("^  public (?:int|float) (\\w+)\\(");
  private static final String[] METHODS = {
    "int add() IllegalArgumentException IllegalStateException",
    "int remove(int) IndexOutOfBoundsException",
    "int rename(int) IndexOutOfBoundsException IllegalArgumentException IllegalStateException",
    "int open(int) IndexOutOfBoundsException",
    "int close(int) IndexOutOfBoundsException IllegalStateException",
    "int next(int) IndexOutOfBoundsException IllegalStateException",
    "int readLeaf(int) IndexOutOfBoundsException IllegalStateException",
    "int seek(int,int) IndexOutOfBoundsException IllegalArgumentException IllegalStateException",
    "int appendText(int) IllegalArgumentException IllegalStateException",
    "int clearText()",
    "int errorPosition()",
    "int runText() IllegalArgumentException",
    "int undo() IllegalStateException",
    "int save(int) IndexOutOfBoundsException",
    "int restore(int) IndexOutOfBoundsException IllegalStateException",
    "int entries()",
    "int idAt(int) IndexOutOfBoundsException",
    "int find() IllegalArgumentException",
    "int hashOfText() IllegalArgumentException",
    "int hashOf(int) IndexOutOfBoundsException",
    "int letterOf(int,int) IndexOutOfBoundsException",
    "int withHash(int) IndexOutOfBoundsException",
    "int leaves()",
    "int depthOf(int) IndexOutOfBoundsException",
    "int leafSize(int) IndexOutOfBoundsException",
    "int splits()",
    "int merges()",
    "float meanLeafSize()",
    "int leavesIfAdded() IllegalArgumentException IllegalStateException",
    "int position(int) IndexOutOfBoundsException",
    "int peek(int) IndexOutOfBoundsException",
    "int remaining(int) IndexOutOfBoundsException",
    "int savedStates()",
    "int textLength()"
  };

  /** What the interface says ahead of its calls. */
  private static final String[] HEADINGS = {
    "---- entries: add remove rename",
    "---- readers: open close next readLeaf seek",
    "---- texts: appendText clearText errorPosition runText",
    "---- undo and slots: undo save restore",
    "---- queries about entries; queries change nothing:"
        + " entries idAt find hashOfText hashOf letterOf withHash",
    "---- queries about the tree:"
        + " leaves depthOf leafSize splits merges meanLeafSize leavesIfAdded",
    "---- queries about readers: position peek remaining savedStates textLength"
  };

  private FaceTest() {}

  public static void main(String[] args) throws IOException {
    Class<?> face = HashedDirectory.class;
    Check.due("the class", Modifier.toString(face.getModifiers()), "public final");
    Check.due("the methods", methods(face), new TreeSet<>(Arrays.asList(METHODS)));
    Check.due("the constructors", constructors(face), "public HashedDirectory()");
    Check.due("the fields", fields(face), new TreeSet<>(Arrays.asList(
        "public static final int NONE", "public static final int START")));
    Check.due("the headings and their calls", headings(), Arrays.asList(HEADINGS));
    privateMethodsHaveNamesOfTheirOwn(face);
    Check.finish("FaceTest");
  }

  private static TreeSet<String> methods(Class<?> face) {
    TreeSet<String> methods = new TreeSet<>();
    for (Method method : face.getDeclaredMethods()) {
      if (!Modifier.isPrivate(method.getModifiers()) && !method.isSynthetic()) {
        String visible = Modifier.toString(method.getModifiers()).replaceFirst("^public$", "");
        methods.add((visible + method.getReturnType() + " " + method.getName() + "("
            + names(method.getParameterTypes(), ",") + ") "
            + names(method.getExceptionTypes(), " ")).trim());
      }
    }
    return methods;
  }

  private static String names(Class<?>[] classes, String between) {
    return Arrays.stream(classes).map(Class::getSimpleName).collect(Collectors.joining(between));
  }

  private static String constructors(Class<?> face) {
    return Arrays.stream(face.getDeclaredConstructors()).map(Constructor::toString)
        .collect(Collectors.joining(", "));
  }

  private static TreeSet<String> fields(Class<?> face) {
    TreeSet<String> fields = new TreeSet<>();
    for (Field field : face.getDeclaredFields()) {
      if (!Modifier.isPrivate(field.getModifiers())) {
        fields.add(Modifier.toString(field.getModifiers()) + " " + field.getType() + " "
            + field.getName());
      }
    }
    return fields;
  }

  /** The headings are comments, so they are read from the source, which .ci/run stands above. */
  private static List<String> headings() throws IOException {
    List<String> headings = new ArrayList<>();
    for (String line : Files.readAllLines(Path.of("src/main/java/HashedDirectory.java"))) {
      Matcher call = PUBLIC_CALL.matcher(line);
      if (line.startsWith("  // ---- ")) {
        headings.add(line.substring(5) + ":");
      } else if (call.find() && !headings.isEmpty()) {
        int last = headings.size() - 1;
        headings.set(last, headings.get(last) + " " + call.group(1));
      }
    }
    headings.removeIf(heading -> heading.endsWith(":"));
    return headings;
  }

  private static void privateMethodsHaveNamesOfTheirOwn(Class<?> face) {
    String open = " " + Arrays.stream(face.getMethods()).map(Method::getName)
        .collect(Collectors.joining(" ")) + " ";
    for (Method method : face.getDeclaredMethods()) {
      if (Modifier.isPrivate(method.getModifiers())) {
        Check.due("a public method is named as the private " + method.getName(),
            open.contains(" " + method.getName() + " "), false);
      }
    }
  }
}
