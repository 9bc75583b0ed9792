import java.io.DataInputStream;
import java.io.IOException;
import java.io.InputStream;
import java.lang.reflect.Constructor;
import java.lang.reflect.Field;
import java.lang.reflect.Method;
import java.lang.reflect.Modifier;
import java.util.ArrayList;
import java.util.Arrays;
import java.util.List;
import java.util.TreeSet;

/** The rules of LANGUAGE.md that the compiled class shows. */
public final class LanguageTest {
  /** All that the class has of the library, with none of what rules 3, 4, 6 and 13 leave out. */
  private static final String[] LIBRARY = {
    "java/lang/Object.<init>", "java/lang/System.arraycopy",
    "java/lang/IllegalArgumentException.<init>", "java/lang/IllegalStateException.<init>",
    "java/lang/IndexOutOfBoundsException.<init>"
  };
  private static final int MAX_CLASSES = 12;
  private static final int MAX_FIELDS = 20;
  private static final int MAX_PARAMETERS = 7;

  private LanguageTest() {}

  public static void main(String[] args) throws IOException {
    List<Class<?>> classes = new ArrayList<>();
    classes.add(HashedDirectory.class);
    for (Class<?> inside : HashedDirectory.class.getDeclaredClasses()) {
      classes.add(inside);
      rule1And2ClassesInside(inside);
    }
    Check.due("rule 11: the file has few classes", classes.size() <= MAX_CLASSES, true);
    TreeSet<String> library = new TreeSet<>();
    for (Class<?> each : classes) {
      rule5StaticFields(each);
      rule11FieldsAndParameters(each);
      library.addAll(references(each));
    }
    Check.due("rule 4: the library", library, new TreeSet<>(Arrays.asList(LIBRARY)));
    Check.finish("LanguageTest");
  }

  private static void rule1And2ClassesInside(Class<?> inside) {
    int modifiers = inside.getModifiers();
    Check.due("rule 2: " + inside + " is static", Modifier.isStatic(modifiers), true);
    Check.due("rule 1: " + inside + " is seen from outside",
        Modifier.isPublic(modifiers) || Modifier.isProtected(modifiers), false);
  }

  private static void rule5StaticFields(Class<?> each) {
    for (Field field : each.getDeclaredFields()) {
      if (Modifier.isStatic(field.getModifiers())) {
        Check.due("rule 5: " + field + " is final", Modifier.isFinal(field.getModifiers()), true);
        Check.due("rule 5: the type of " + field, field.getType(), int.class);
      }
    }
  }

  private static void rule11FieldsAndParameters(Class<?> each) {
    int fields = 0;
    for (Field field : each.getDeclaredFields()) {
      fields += Modifier.isStatic(field.getModifiers()) ? 0 : 1;
    }
    Check.due("rule 11: " + each + " has few fields", fields <= MAX_FIELDS, true);
    for (Method method : each.getDeclaredMethods()) {
      Check.due("rule 11: " + method + " has few parameters",
          method.getParameterCount() <= MAX_PARAMETERS, true);
    }
    for (Constructor<?> constructor : each.getDeclaredConstructors()) {
      Check.due("rule 6: " + constructor + " throws nothing",
          constructor.getExceptionTypes().length, 0);
    }
  }

  /** The methods and fields of other classes, from the constants of the compiled class. */
  private static TreeSet<String> references(Class<?> each) throws IOException {
    String file = each.getName() + ".class";
    try (InputStream stream = HashedDirectory.class.getResourceAsStream(file);
        DataInputStream in = new DataInputStream(stream)) {
      in.skipBytes(8);
      int count = in.readUnsignedShort();
      String[] texts = new String[count];
      int[][] parts = new int[count][];
      for (int i = 1; i < count; i++) {
        int tag = in.readUnsignedByte();
        switch (tag) {
          case 1 -> texts[i] = in.readUTF();
          case 3, 4 -> in.skipBytes(4);
          case 5, 6 -> {
            in.skipBytes(8);
            i++;
          }
          case 7, 8 -> parts[i] = new int[] {tag, in.readUnsignedShort()};
          case 9, 10, 11, 12 ->
              parts[i] = new int[] {tag, in.readUnsignedShort(), in.readUnsignedShort()};
          default -> throw new IllegalStateException("rule 2: a lambda or the like in " + file);
        }
      }
      return named(texts, parts);
    }
  }

  private static TreeSet<String> named(String[] texts, int[][] parts) {
    TreeSet<String> names = new TreeSet<>();
    for (int[] part : parts) {
      if (part != null && part[0] >= 9 && part[0] <= 11) {
        String owner = texts[parts[part[1]][1]];
        if (!owner.startsWith("HashedDirectory")) {
          names.add(owner + "." + texts[parts[part[2]][1]]);
        }
      }
    }
    return names;
  }
}
