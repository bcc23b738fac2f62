import java.io.IOException;
import java.lang.reflect.Constructor;
import java.lang.reflect.Field;
import java.lang.reflect.Member;
import java.lang.reflect.Method;
import java.lang.reflect.Modifier;
import java.nio.file.Files;
import java.nio.file.Path;
import java.util.ArrayList;
import java.util.Arrays;
import java.util.Collections;
import java.util.List;
import java.util.regex.Matcher;
import java.util.regex.Pattern;

/** The public face of the document, and the rules of LANGUAGE.md that can be seen from outside. */
public final class FaceTest {
  private static final Path SOURCE = Path.of("src/main/java/BoundPorts.java");

  private static final List<String> FACE = List.of(
      "int letter(int)", "int blank()", "int fault()", "int board()", "int set(int,int)",
      "int rank(int,int)", "int up(int,boolean)", "int hear(int,int,int,boolean)",
      "int of(int,int)", "int queue(int,int)", "int key(int,int)", "int way(int)",
      "int send(int)", "int flow(int,int)", "int tick(int)", "int count(int)", "long digest()");

  private static final List<String> BANNED = List.of(
      "\\bthrow\\b", "\\bthrows\\b", "\\btry\\b", "\\bcatch\\b", "\\bfinally\\b",
      "\\bsynchronized\\b", "\\bassert\\b", "->", "::", "\\bimport\\b", "\\bpackage\\b",
      "\\bprotected\\b", "Exact\\(", "\\bSystem\\b", "\\bThread\\b", "static\\s*\\{");

  public static void main(String[] args) throws IOException {
    Check check = new Check();
    constants(check);
    members(check);
    methodNames(check);
    bannedWords(check);
    check.end();
  }

  private static void constants(Check check) {
    check.due("NONE", BoundPorts.NONE, -1);
    check.due("UNKNOWN", BoundPorts.UNKNOWN, -1001);
    check.due("OUTSIDE", BoundPorts.OUTSIDE, -1002);
    check.due("STATE", BoundPorts.STATE, -1003);
    check.due("FULL", BoundPorts.FULL, -1004);
  }

  private static void members(Check check) {
    Class<?> type = BoundPorts.class;
    same(check, "class", Modifier.toString(type.getModifiers()), "public final");
    List<String> methods = new ArrayList<>();
    for (Method m : type.getDeclaredMethods()) {
      if (!Modifier.isPrivate(m.getModifiers())) {
        same(check, m.getName(), Modifier.toString(m.getModifiers()), "public");
        methods.add(signature(m));
      }
    }
    List<String> face = new ArrayList<>(FACE);
    Collections.sort(face);
    Collections.sort(methods);
    same(check, "methods", methods.toString(), face.toString());
    List<String> fields = new ArrayList<>();
    for (Field f : type.getDeclaredFields()) {
      if (!Modifier.isPrivate(f.getModifiers())) {
        same(check, f.getName(), Modifier.toString(f.getModifiers()), "public static final");
        fields.add(f.getName());
      }
    }
    Collections.sort(fields);
    same(check, "fields", fields.toString(), "[FULL, NONE, OUTSIDE, STATE, UNKNOWN]");
    Constructor<?>[] made = type.getDeclaredConstructors();
    check.due("constructors", made.length, 1);
    check.due("parameters of the constructor", made[0].getParameterCount(), 0);
    check.due("constructor is public", isPublic(made[0]), 1);
  }

  private static void methodNames(Check check) {
    List<Class<?>> classes = new ArrayList<>(Arrays.asList(BoundPorts.class.getDeclaredClasses()));
    check.due("at most twelve classes", classes.size() < 12 ? 1 : 0, 1);
    for (Class<?> c : classes) {
      check.due(c.getName() + " is static", Modifier.isStatic(c.getModifiers()) ? 1 : 0, 1);
      check.due(c.getName() + " is not public", Modifier.isPublic(c.getModifiers()) ? 1 : 0, 0);
    }
    classes.add(BoundPorts.class);
    for (Class<?> c : classes) {
      for (Method m : c.getDeclaredMethods()) {
        boolean inFace = FACE.stream().anyMatch(s -> s.contains(" " + m.getName() + "("));
        boolean allowed = c == BoundPorts.class && isPublic(m) == 1;
        check.due("name of " + m, inFace && !allowed ? 1 : 0, 0);
        check.due("parameters of " + m, m.getParameterCount() <= 7 ? 1 : 0, 1);
      }
    }
  }

  private static void bannedWords(Check check) throws IOException {
    String code = Files.readString(SOURCE)
        .replaceAll("(?s)/\\*.*?\\*/", " ")
        .replaceAll("//[^\\n]*", " ");
    for (String word : BANNED) {
      Matcher m = Pattern.compile(word).matcher(code);
      check.due("uses of " + word, m.find() ? 1 : 0, 0);
    }
  }

  private static String signature(Method m) {
    StringBuilder text = new StringBuilder();
    for (Class<?> parameter : m.getParameterTypes()) {
      text.append(text.length() == 0 ? "" : ",").append(parameter.getName());
    }
    return m.getReturnType().getName() + " " + m.getName() + "(" + text + ")";
  }

  private static int isPublic(Member m) {
    return Modifier.isPublic(m.getModifiers()) ? 1 : 0;
  }

  private static void same(Check check, String what, String got, String want) {
    check.due(what + " is " + got + ", wanted " + want, got.equals(want) ? 1 : 0, 1);
  }
}
