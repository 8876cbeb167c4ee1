import java.lang.reflect.Constructor;
import java.lang.reflect.Field;
import java.lang.reflect.Method;
import java.lang.reflect.Modifier;
import java.util.Set;
import java.util.TreeSet;

/** The public face as the document writes it, and nothing else to be seen from outside. */
public final class FaceTest {
  private static final String ARGUMENT = "IllegalArgumentException";
  private static final String STATE = "IllegalStateException";
  private static final String INDEX = "IndexOutOfBoundsException";
  private static final String UNSUPPORTED = "UnsupportedOperationException";

  private static final Set<String> WANT = new TreeSet<>(Set.of(
      line("AffineHulls", "(int,int)"),
      line("void term", "(int,int)", ARGUMENT),
      line("int edge", "(int,int,int,int)", ARGUMENT, STATE),
      line("void entry", "(int)", ARGUMENT),
      line("int analyse", "()"),
      line("int points", "(int)", ARGUMENT, STATE),
      line("int point", "(int,int,int)", ARGUMENT, STATE, INDEX),
      line("int equations", "(int)", ARGUMENT, STATE),
      line("int coefficient", "(int,int,int)", ARGUMENT, STATE, INDEX),
      line("boolean holds", "(int)", ARGUMENT, STATE),
      line("void begin", "(int,int)", ARGUMENT),
      line("boolean go", "(int,int)", ARGUMENT),
      line("int at", "(int)", ARGUMENT),
      line("int note", "(int)", ARGUMENT, STATE),
      line("int noteAll", "()", STATE, UNSUPPORTED),
      line("int forget", "()"),
      line("boolean sound", "()")));

  public static void main(String[] args) {
    Class<?> face = AffineHulls.class;
    Due.is("public and final", Modifier.isPublic(face.getModifiers()) && Modifier.isFinal(face.getModifiers()), true);
    Set<String> seen = new TreeSet<>();
    for (Constructor<?> c : face.getDeclaredConstructors()) {
      if (!Modifier.isPrivate(c.getModifiers())) {
        seen.add(line(c.getName(), kinds(c.getParameterTypes()), names(c.getExceptionTypes())));
      }
    }
    for (Method m : face.getDeclaredMethods()) {
      if (!Modifier.isPrivate(m.getModifiers())) {
        String head = m.getReturnType() + " " + m.getName();
        seen.add(line(head, kinds(m.getParameterTypes()), names(m.getExceptionTypes())));
      }
    }
    if (!seen.equals(WANT)) {
      System.out.println("seen: " + seen + "\ndue:  " + WANT);
    }
    Due.is("the face", seen.equals(WANT), true);
    for (Field f : face.getDeclaredFields()) {
      Due.is("private field " + f.getName(), Modifier.isPrivate(f.getModifiers()), true);
    }
    noPrivateNamesake(face);
    Due.end();
  }

  private static void noPrivateNamesake(Class<?> face) {
    Set<String> open = new TreeSet<>();
    for (Method m : face.getDeclaredMethods()) {
      if (Modifier.isPublic(m.getModifiers())) {
        Due.is("only one method is named " + m.getName(), open.add(m.getName()), true);
      }
    }
    for (Method m : face.getDeclaredMethods()) {
      if (!Modifier.isPublic(m.getModifiers())) {
        Due.is(m.getName() + " is a public method's name too", open.contains(m.getName()), false);
      }
    }
  }

  private static String line(String head, String kinds, String... thrown) {
    return head + kinds + (thrown.length == 0 ? "" : " throws " + String.join(",", thrown));
  }

  private static String kinds(Class<?>[] types) {
    return "(" + String.join(",", names(types)) + ")";
  }

  private static String[] names(Class<?>[] types) {
    String[] names = new String[types.length];
    for (int i = 0; i < types.length; i++) {
      names[i] = types[i].getSimpleName();
    }
    return names;
  }
}
