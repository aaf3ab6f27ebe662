import java.io.IOException;
import java.lang.reflect.Constructor;
import java.lang.reflect.Field;
import java.lang.reflect.Method;
import java.lang.reflect.Modifier;
import java.nio.file.Files;
import java.nio.file.Path;
import java.util.ArrayList;
import java.util.Collections;
import java.util.List;
import java.util.TreeSet;
import java.util.regex.Matcher;
import java.util.regex.Pattern;

/** The class shows the document's face and nothing else. */
final class FaceTest {
  private static final String I = "IndexOutOfBoundsException";
  private static final String A = "IllegalArgumentException";
  private static final String S = "IllegalStateException";

  private static final String[] METHODS = {
    "boolean bay(int,boolean) " + I,
    "int road(int,int,int,int,int,int,int) " + I + " " + A + " " + S,
    "boolean bridge(int,int,int,int) " + I + " " + A,
    "int work(int,int,int,int,int) " + I + " " + A + " " + S,
    "int rig(int,int,int,int,int,int,int) " + I + " " + A + " " + S,
    "void load(int,int,int) " + I + " " + A + " " + S,
    "int axle(int,int) " + I,
    "int greatest(int,int,boolean) " + I,
    "int greatestAnew(int,int,boolean) " + I,
    "void authority(int,int,int) " + I + " " + A,
    "int permit(int,int,int,int) " + I + " " + A + " " + S,
    "int embargo(int,int,int) " + I + " " + A + " " + S,
    "int why(int,int,int) " + I + " " + A,
    "int drive(int,int) " + I + " " + S,
    "int arrives(int,int,int,int) " + I + " " + A,
    "int rigIs(int,int) " + I + " " + A,
    "int pass(int) " + A + " " + S,
  };

  /** The sections of the interface and the calls behind each of them, in the document's order. */
  private static final String SECTIONS = "HeavyHaul"
      + " ---- roads bay road bridge work"
      + " ---- rigs rig load axle greatest greatestAnew"
      + " ---- authorities authority permit embargo"
      + " ---- drives why drive arrives rigIs pass";

  public static void main(String[] args) throws IOException {
    Check check = new Check();
    check.due("NONE", -1, () -> HeavyHaul.NONE);
    int modifiers = HeavyHaul.class.getModifiers();
    check.due("public and final", 1,
        () -> Check.number(Modifier.isPublic(modifiers) && Modifier.isFinal(modifiers)));

    TreeSet<String> shown = new TreeSet<>();
    TreeSet<String> hiddenNames = new TreeSet<>();
    TreeSet<String> shownNames = new TreeSet<>();
    for (Method method : HeavyHaul.class.getDeclaredMethods()) {
      if (Modifier.isPrivate(method.getModifiers())) {
        hiddenNames.add(method.getName());
      } else {
        shown.add(face(method));
        shownNames.add(method.getName());
      }
    }
    check.same("the methods", new TreeSet<>(List.of(METHODS)).toString(), shown.toString());
    hiddenNames.retainAll(shownNames);
    check.same("private methods with a public one's name", "[]", hiddenNames.toString());

    List<String> fields = new ArrayList<>();
    for (Field field : HeavyHaul.class.getDeclaredFields()) {
      if (!Modifier.isPrivate(field.getModifiers())) {
        fields.add(Modifier.toString(field.getModifiers()) + " " + field.getName());
      }
    }
    check.same("the fields", "[public static final NONE]", fields.toString());

    List<String> constructors = new ArrayList<>();
    for (Constructor<?> constructor : HeavyHaul.class.getDeclaredConstructors()) {
      constructors.add(Modifier.toString(constructor.getModifiers())
          + constructor.getParameterCount());
    }
    check.same("the constructors", "[public0]", constructors.toString());

    List<String> openClasses = new ArrayList<>();
    for (Class<?> inside : HeavyHaul.class.getDeclaredClasses()) {
      int has = inside.getModifiers();
      if (Modifier.isPublic(has) || Modifier.isProtected(has) || !Modifier.isStatic(has)) {
        openClasses.add(inside.getSimpleName());
      }
    }
    Collections.sort(openClasses);
    check.same("classes inside that are open", "[]", openClasses.toString());
    check.same("the sections", SECTIONS, sections());
    check.close("FaceTest");
  }

  private static String sections() throws IOException {
    String source = Files.readString(Path.of("src/main/java/HeavyHaul.java"));
    Matcher told = Pattern.compile("// (---- .*)|public (?:\\w+ )?(\\w+)\\(").matcher(source);
    StringBuilder all = new StringBuilder();
    while (told.find()) {
      all.append(all.length() == 0 ? "" : " ");
      all.append(told.group(1) == null ? told.group(2) : told.group(1));
    }
    return all.toString();
  }

  private static String face(Method method) {
    StringBuilder told = new StringBuilder(method.getReturnType().getSimpleName());
    told.append(' ').append(method.getName()).append('(');
    String comma = "";
    for (Class<?> parameter : method.getParameterTypes()) {
      told.append(comma).append(parameter.getSimpleName());
      comma = ",";
    }
    told.append(')');
    for (Class<?> exception : method.getExceptionTypes()) {
      told.append(' ').append(exception.getSimpleName());
    }
    return told.toString();
  }
}
