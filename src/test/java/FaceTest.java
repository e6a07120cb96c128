import java.lang.reflect.Constructor;
import java.lang.reflect.Field;
import java.lang.reflect.Method;
import java.lang.reflect.Modifier;
import java.util.Arrays;
import java.util.Set;
import java.util.TreeSet;

/** The public face is the document's, to the letter (rule 1 of LANGUAGE.md). */
public final class FaceTest {
  private static final String[] METHODS = {
    "int section(int) IllegalArgumentException IllegalStateException",
    "void bytes(int,int) IllegalArgumentException IllegalStateException",
    "void mended(int,int) IllegalArgumentException IllegalStateException",
    "void clear()",
    "int link(int) IllegalArgumentException NoSuchElementException IllegalStateException",
    "int packed(int,int) NoSuchElementException",
    "int image(int) NoSuchElementException",
    "void spoil(int,int) NoSuchElementException",
    "int valid() NoSuchElementException",
    "void restart()",
    "void raise(int) IllegalArgumentException",
    "int run(int) NoSuchElementException",
    "int state()",
    "int register(int) NoSuchElementException",
    "int peek(int) NoSuchElementException",
    "int sent()",
    "int byteSent(int) NoSuchElementException"
  };

  private FaceTest() {}

  public static void main(String[] args) {
    Check check = new Check("FaceTest");
    Set<String> got = new TreeSet<>();
    Set<String> names = new TreeSet<>();
    for (Method m : CartridgeDesk.class.getDeclaredMethods()) {
      if (Modifier.isPrivate(m.getModifiers())) {
        continue;
      }
      check.due(m + " is public and of the object", m.getModifiers(), Modifier.PUBLIC);
      got.add(told(m));
      names.add(m.getName());
    }
    sameSets(check, got, new TreeSet<>(Arrays.asList(METHODS)));
    checkFields(check);
    checkConstructors(check);
    checkInside(check, names);
    int kind = CartridgeDesk.class.getModifiers();
    check.due("the class's modifiers", kind, Modifier.PUBLIC | Modifier.FINAL);
    check.due("NONE", CartridgeDesk.NONE, -1);
    check.end();
  }

  private static String told(Method m) {
    StringBuilder text = new StringBuilder();
    text.append(m.getReturnType().getSimpleName()).append(' ').append(m.getName()).append('(');
    for (int k = 0; k < m.getParameterCount(); k++) {
      text.append(k == 0 ? "" : ",").append(m.getParameterTypes()[k].getSimpleName());
    }
    text.append(')');
    for (Class<?> e : m.getExceptionTypes()) {
      text.append(' ').append(e.getSimpleName());
    }
    return text.toString();
  }

  private static void sameSets(Check check, Set<String> got, Set<String> want) {
    for (String face : want) {
      check.due("there is " + face, got.contains(face) ? 1 : 0, 1);
    }
    for (String face : got) {
      check.due("the document has " + face, want.contains(face) ? 1 : 0, 1);
    }
  }

  private static void checkFields(Check check) {
    for (Field f : CartridgeDesk.class.getDeclaredFields()) {
      boolean none = f.getName().equals("NONE");
      int visible = Modifier.PUBLIC | Modifier.PROTECTED | Modifier.PRIVATE;
      int due = none ? Modifier.PUBLIC : Modifier.PRIVATE;
      check.due(f + " is visible as due", f.getModifiers() & visible, due);
    }
  }

  private static void checkConstructors(Check check) {
    Constructor<?>[] all = CartridgeDesk.class.getDeclaredConstructors();
    check.due("constructors", all.length, 1);
    check.due("its parameters", all[0].getParameterCount(), 0);
    check.due("its modifiers", all[0].getModifiers(), Modifier.PUBLIC);
  }

  private static void checkInside(Check check, Set<String> names) {
    for (Class<?> inside : CartridgeDesk.class.getDeclaredClasses()) {
      int hidden = Modifier.PUBLIC | Modifier.PROTECTED;
      check.due(inside + " is not public", inside.getModifiers() & hidden, 0);
      for (Method m : inside.getDeclaredMethods()) {
        check.due(m + " has a name of the face", names.contains(m.getName()) ? 1 : 0, 0);
      }
    }
  }
}
