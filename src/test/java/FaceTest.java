import java.lang.reflect.Constructor;
import java.lang.reflect.Field;
import java.lang.reflect.Method;
import java.lang.reflect.Modifier;
import java.util.Set;
import java.util.TreeSet;

/** The class has the document's public face, and nothing else of it can be seen from outside. */
public final class FaceTest {
  private static final String IAE = " java.lang.IllegalArgumentException";
  private static final String ISE = " java.lang.IllegalStateException";
  private static final String IOOBE = " java.lang.IndexOutOfBoundsException";
  private static final String NSEE = " java.util.NoSuchElementException";
  private static final String UOE = " java.lang.UnsupportedOperationException";

  private static final Set<String> FACE =
      Set.of(
          "int make 2" + IAE + ISE,
          "int copy 3" + IAE + ISE,
          "int reversed 2" + IAE + ISE,
          "int part 4" + IAE + ISE + IOOBE,
          "int shifted 3" + IAE + ISE,
          "int ofMap 3" + IAE + ISE,
          "int combine 4" + IAE + ISE,
          "int hold 2" + IAE,
          "int size 1" + IAE + ISE,
          "int at 2" + IAE + ISE + IOOBE,
          "int find 2" + IAE + ISE + NSEE,
          "int add 2" + IAE + UOE + ISE,
          "int insert 3" + IAE + UOE + ISE + IOOBE,
          "int put 3" + IAE + UOE + ISE + IOOBE,
          "int take 2" + IAE + UOE + ISE + IOOBE,
          "int remove 2" + IAE + UOE + ISE + NSEE,
          "double mean 1" + IAE + ISE + NSEE,
          "boolean alike 2" + IAE + ISE,
          "int about 2" + IAE);

  private static boolean ok = true;

  public static void main(String[] args) {
    Class<?> type = LiveCollections.class;
    check(Modifier.isPublic(type.getModifiers()), "the class is public");
    check(Modifier.isFinal(type.getModifiers()), "the class is final");
    check(type.getSuperclass() == Object.class, "the class extends nothing");
    check(type.getInterfaces().length == 0, "the class implements nothing");
    checkConstructors(type.getDeclaredConstructors());
    checkMethods(type.getDeclaredMethods());
    for (Field field : type.getDeclaredFields()) {
      check(Modifier.isPrivate(field.getModifiers()), field.getName() + " is private");
    }
    for (Class<?> inner : type.getDeclaredClasses()) {
      check(Modifier.isStatic(inner.getModifiers()), inner.getName() + " is static");
      check(!Modifier.isPublic(inner.getModifiers()), inner.getName() + " is not public");
      check(!Modifier.isProtected(inner.getModifiers()), inner.getName() + " is not protected");
    }
    System.out.println("FaceTest: " + (ok ? "as the document says" : "not as the document says"));
    System.exit(ok ? 0 : 1);
  }

  private static void checkConstructors(Constructor<?>[] constructors) {
    check(constructors.length == 1, "there is one constructor");
    check(constructors[0].getModifiers() == Modifier.PUBLIC, "the constructor is public");
    check(constructors[0].getParameterCount() == 0, "the constructor takes nothing");
    check(constructors[0].getExceptionTypes().length == 0, "the constructor throws nothing");
  }

  private static void checkMethods(Method[] methods) {
    Set<String> face = new TreeSet<>();
    Set<String> names = new TreeSet<>();
    for (Method method : methods) {
      if (!Modifier.isPrivate(method.getModifiers())) {
        face.add(signature(method));
        names.add(method.getName());
        check(method.getModifiers() == Modifier.PUBLIC, method.getName() + " is public alone");
      }
    }
    check(face.equals(FACE), "the face is the document's, not " + face);
    for (Method method : methods) {
      boolean hidden = Modifier.isPrivate(method.getModifiers());
      check(!hidden || !names.contains(method.getName()), method.getName() + " is public only");
    }
  }

  private static String signature(Method method) {
    StringBuilder text = new StringBuilder();
    text.append(method.getReturnType().getName()).append(' ').append(method.getName());
    text.append(' ').append(method.getParameterCount());
    for (Class<?> parameter : method.getParameterTypes()) {
      check(parameter == int.class, method.getName() + " takes ints");
    }
    for (Class<?> thrown : method.getExceptionTypes()) {
      text.append(' ').append(thrown.getName());
    }
    return text.toString();
  }

  private static void check(boolean holds, String what) {
    if (!holds) {
      ok = false;
      System.out.println("does not hold: " + what);
    }
  }
}
