import java.lang.reflect.Constructor;
import java.lang.reflect.Field;
import java.lang.reflect.Method;
import java.lang.reflect.Modifier;
import java.nio.charset.StandardCharsets;
import java.nio.file.Files;
import java.nio.file.Path;
import java.util.Arrays;
import java.util.TreeSet;
import java.util.stream.Collectors;

/** The class has the face of the document, which stands in ../shared/DOC.md, and nothing beside it. */
public final class FaceTest {
  public static void main(String[] args) throws Exception {
    TreeSet<String> due = new TreeSet<>();
    String document = Files.readString(Path.of("../shared/DOC.md"), StandardCharsets.UTF_8);
    String face = document.substring(document.indexOf("public final class"), document.indexOf("## Terms"));
    for (String row : face.split("\n")) {
      if (row.startsWith("    public ")) {
        due.add(withoutNames(row.trim()));
      }
    }
    Checks.same("rows of the face", due.size(), 40);
    Checks.same("the face", String.join("\n", faceOf(GrainElevator.class)), String.join("\n", due));
    Checks.same("public and final", GrainElevator.class.getModifiers(), Modifier.PUBLIC | Modifier.FINAL);
    classesInside();
    Checks.finish("FaceTest");
  }

  private static String withoutNames(String row) {
    return row.replaceAll("(int|boolean) \\w+(?=[,)])", "$1");
  }

  private static TreeSet<String> faceOf(Class<?> of) {
    TreeSet<String> face = new TreeSet<>();
    TreeSet<String> hidden = new TreeSet<>();
    for (Constructor<?> c : of.getDeclaredConstructors()) {
      face.add("public " + of.getSimpleName() + listOf(c.getParameterTypes()) + thrown(c.getExceptionTypes()));
    }
    for (Method m : of.getDeclaredMethods()) {
      if (Modifier.isPrivate(m.getModifiers())) {
        hidden.add(m.getName());
        continue;
      }
      face.add(Modifier.toString(m.getModifiers()) + " " + m.getReturnType() + " " + m.getName()
          + listOf(m.getParameterTypes()) + thrown(m.getExceptionTypes()));
    }
    for (Field f : of.getDeclaredFields()) {
      Checks.same("private " + f.getName(), Modifier.isPrivate(f.getModifiers()), true);
      boolean isFixed = Modifier.isFinal(f.getModifiers()) || !Modifier.isStatic(f.getModifiers());
      Checks.same("no static state in " + f.getName(), isFixed, true);
    }
    for (Method m : of.getMethods()) {
      Checks.same("a private method named " + m.getName(), hidden.contains(m.getName()), false);
    }
    return face;
  }

  private static String listOf(Class<?>[] types) {
    return Arrays.stream(types).map(Class::getSimpleName).collect(Collectors.joining(", ", "(", ")"));
  }

  private static String thrown(Class<?>[] types) {
    String names = Arrays.stream(types).map(Class::getSimpleName).collect(Collectors.joining(", "));
    return (names.isEmpty() ? "" : " throws " + names) + ";";
  }

  private static void classesInside() {
    for (Class<?> inside : GrainElevator.class.getDeclaredClasses()) {
      String name = inside.getSimpleName();
      Checks.same(name + " is static", Modifier.isStatic(inside.getModifiers()), true);
      boolean isHidden = !Modifier.isPublic(inside.getModifiers()) && !Modifier.isProtected(inside.getModifiers());
      Checks.same(name + " is private or package-visible", isHidden, true);
    }
  }
}
