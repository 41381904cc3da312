import java.lang.reflect.Constructor;
import java.lang.reflect.Field;
import java.lang.reflect.Method;
import java.lang.reflect.Modifier;
import java.util.Arrays;
import java.util.List;
import java.util.TreeSet;

/** The public face is the document's, and nothing else shows. */
public final class FaceTest {
  private static final List<String> FACE = List.of("int state(int)", "int hearer(int, int, int)", "int deed(int, int, int)",
      "boolean set(int, int, int)", "int perform(int)", "boolean pay(int, int)", "boolean glove(int, boolean)",
      "boolean let(int, boolean)", "int evenings(int)", "int feed(int, int, int, int, int)", "boolean end(int)",
      "int text(int)", "int fault(int)", "int of(int, int)", "int deedOf(int, int)", "int statute(int)",
      "int book(int, int)", "int goes(int)", "int settles(int, int)", "int makes(int, int, int)", "int fills(int, int)",
      "int lines(int, int)", "int claque(int, int)", "int fits(int)", "int cuts(int, int, int)", "int near(int, int)",
      "boolean means(int, int)", "int passed(int, int, int)", "int share(int, int)", "int brides()", "int game(int)",
      "int brakes(int, int)", "int eager(int, int)", "int groups(int)", "int price(int, int)", "int gain(int)",
      "int bargain(int)", "int calm(int)", "int tires(int)", "boolean undo()", "boolean image(boolean)", "int look(int)");

  private static int wrong;

  private static void due(String what, Object got, Object due) {
    if (got.equals(due)) return;
    wrong++;
    System.out.println(what + ": " + got + ", due is " + due);
  }

  private static String told(Method m) {
    String types = Arrays.toString(m.getParameterTypes());
    return m.getReturnType() + " " + m.getName() + "(" + types.substring(1, types.length() - 1) + ")";
  }

  public static void main(String[] args) {
    TreeSet<String> open = new TreeSet<>();
    TreeSet<String> names = new TreeSet<>();
    for (Method m : Encores.class.getDeclaredMethods()) {
      if (m.isSynthetic()) continue;
      if (Modifier.isPublic(m.getModifiers())) {
        open.add(told(m));
        names.add(m.getName());
      } else if (!Modifier.isPrivate(m.getModifiers())) {
        due("neither public nor private", told(m), "");
      }
    }
    due("the methods", open, new TreeSet<>(FACE));
    for (Method m : Encores.class.getDeclaredMethods())
      if (Modifier.isPrivate(m.getModifiers()) && !m.isSynthetic()) due(m.getName() + " is a public name", names.contains(m.getName()), false);
    for (Field f : Encores.class.getDeclaredFields()) {
      boolean constant = f.getName().equals("NONE");
      due(f.getName() + " private", Modifier.isPrivate(f.getModifiers()), !constant);
      if (Modifier.isStatic(f.getModifiers())) due(f.getName() + " final", Modifier.isFinal(f.getModifiers()), true);
    }
    Constructor<?>[] constructors = Encores.class.getDeclaredConstructors();
    due("constructors", constructors.length, 1);
    due("the constructor's arguments", constructors[0].getParameterCount(), 0);
    due("public and final", Encores.class.getModifiers(), Modifier.PUBLIC | Modifier.FINAL);
    due("at most twelve classes", Encores.class.getDeclaredClasses().length < 12, true);
    for (Class<?> c : Encores.class.getDeclaredClasses()) {
      due(c + " static", Modifier.isStatic(c.getModifiers()), true);
      due(c + " hidden", Modifier.isPublic(c.getModifiers()) || Modifier.isProtected(c.getModifiers()), false);
      for (Method m : c.getDeclaredMethods()) due(c + " " + m.getName() + " is a public name", names.contains(m.getName()), false);
    }
    due("NONE", Encores.NONE, -1);
    System.out.println(wrong == 0 ? "the face is the document's" : wrong + " wrong");
    if (wrong > 0) System.exit(1);
  }
}
