import java.lang.reflect.Field;
import java.lang.reflect.Method;
import java.lang.reflect.Modifier;
import java.nio.file.Files;
import java.nio.file.Path;
import java.util.Arrays;
import java.util.List;
import java.util.Set;
import java.util.TreeSet;
import java.util.regex.Matcher;
import java.util.regex.Pattern;
import java.util.stream.Collectors;

/** The public face of the document, and those rules of LANGUAGE.md that can be read off the class or its text. */
public final class FaceTest {
  private static final Check c = new Check("FaceTest");
  private static final Class<?> it = SecondSunrise.class;

  public static void main(String[] args) throws Exception {
    constants();
    methods();
    nothingElse();
    namesOfOwnMethods();
    words();
    c.end();
  }

  private static void constants() {
    c.due("NONE", SecondSunrise.NONE, -1);
    c.due("BAD", SecondSunrise.BAD, -2);
    c.due("NOT", SecondSunrise.NOT, -3);
    c.due("FULL", SecondSunrise.FULL, -4);
  }

  private static void methods() {
    for (Calls call : Calls.ALL) {
      Class<?>[] ints = new Class<?>[call.parameters()];
      Arrays.fill(ints, int.class);
      Class<?> answer = call.name.equals("clouds") || call.name.equals("digest") ? long.class : int.class;
      try {
        Method m = it.getMethod(call.name, ints);
        c.that(call.name + " answers " + answer, m.getReturnType() == answer);
        c.that(call.name + " is not static", !Modifier.isStatic(m.getModifiers()));
      } catch (NoSuchMethodException e) {
        c.that("no " + call.name, false);
      }
    }
  }

  private static void nothingElse() {
    c.that("public and final", Modifier.isPublic(it.getModifiers()) && Modifier.isFinal(it.getModifiers()));
    c.due("constructors", it.getDeclaredConstructors().length, 1);
    c.due("public constructors", it.getConstructors().length, 1);
    for (Method m : it.getDeclaredMethods()) {
      c.that(m + " is private or told", Modifier.isPrivate(m.getModifiers()) || told(m.getName()));
    }
    List<String> constants = List.of("NONE", "BAD", "NOT", "FULL");
    for (Field f : it.getDeclaredFields()) {
      c.that(f + " is private or told", Modifier.isPrivate(f.getModifiers()) || constants.contains(f.getName()));
    }
    for (Class<?> inner : it.getDeclaredClasses()) {
      c.that(inner + " is static", Modifier.isStatic(inner.getModifiers()));
      c.that(inner + " is not public", !Modifier.isPublic(inner.getModifiers()) && !Modifier.isProtected(inner.getModifiers()));
    }
    c.that("at most twelve classes", it.getDeclaredClasses().length < 12);
  }

  private static boolean told(String name) {
    return Arrays.stream(Calls.ALL).anyMatch(call -> call.name.equals(name));
  }

  private static void namesOfOwnMethods() {
    Set<String> own = new TreeSet<>();
    for (Method m : it.getDeclaredMethods()) if (!Modifier.isPublic(m.getModifiers())) own.add(m.getName());
    for (Class<?> inner : it.getDeclaredClasses()) {
      for (Method m : inner.getDeclaredMethods()) own.add(m.getName());
      for (Field f : inner.getDeclaredFields()) {
        c.that(f + " is no changing static", !Modifier.isStatic(f.getModifiers()) || Modifier.isFinal(f.getModifiers()));
      }
    }
    for (String name : own) c.that(name + " is a public name", !told(name));
  }

  private static void words() throws Exception {
    String text = Files.readString(Path.of("src/main/java/SecondSunrise.java"));
    String code = Arrays.stream(text.replaceAll("(?s)/\\*.*?\\*/", "").split("\n"))
        .map(line -> line.replaceAll("//.*", "")).collect(Collectors.joining("\n"));
    String[] barred = {"\\bthrow\\b", "\\bthrows\\b", "\\btry\\b", "\\bcatch\\b", "\\bsynchronized\\b", "\\bassert\\b",
      "->", "::", "\\bimport\\b", "\\bpackage\\b", "Exact\\b", "\\bprotected\\b", "\\bThread\\b", "\"", "@", "\\bgoto\\b",
      "\\bwhile\\s*\\(\\s*true", "for\\s*\\([^;]*;\\s*;"};
    for (String word : barred) {
      Matcher m = Pattern.compile(word).matcher(code);
      c.that(word + " is in the text", !m.find());
    }
    c.that("signs are 1 to 127", text.chars().allMatch(sign -> sign > 0 && sign < 128));
  }
}
