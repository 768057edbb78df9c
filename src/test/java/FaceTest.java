import java.io.IOException;
import java.lang.reflect.Constructor;
import java.lang.reflect.Field;
import java.lang.reflect.Method;
import java.lang.reflect.Modifier;
import java.nio.file.Files;
import java.nio.file.Path;
import java.util.TreeSet;
import java.util.regex.Matcher;
import java.util.regex.Pattern;

/** The public face, member by member, and what LANGUAGE.md forbids that a search can see. */
public final class FaceTest {
  private static final String FACE = "[LeasedBuilds(int,int), NONE=-1, action(long,int,int)int, carried(int)int,"
      + " collect()int, content(int)int, count(int)int, crash(int)boolean, deliver(int,int)int,"
      + " digest(int)int, doing(int)int, file(int)int, flying()int, known(int)boolean, lease(int)int,"
      + " lose(int)boolean, message(int)int, restart(int)boolean, spoil(int)boolean,"
      + " stored(int)boolean, tick()int, waiting()int]";
  private static final Pattern FORBIDDEN = Pattern.compile(
      "\\b(import|package|throw|try|catch|finally|synchronized|assert|transient|volatile|native)\\b|->|::");

  private static final Checks CHECKS = new Checks();

  public static void main(String[] args) throws IOException, IllegalAccessException {
    CHECKS.due("the face", face(), FACE);
    CHECKS.due("final class", Modifier.isFinal(LeasedBuilds.class.getModifiers()), true);
    lookForForbiddenWords();
    lookForPublicNamesInside();
    CHECKS.end();
  }

  private static String face() throws IllegalAccessException {
    TreeSet<String> members = new TreeSet<>();
    for (Constructor<?> c : LeasedBuilds.class.getDeclaredConstructors()) {
      members.add(c.getName() + types(c.getParameterTypes()));
    }
    for (Method m : LeasedBuilds.class.getDeclaredMethods()) {
      if (!Modifier.isPrivate(m.getModifiers())) {
        members.add(m.getName() + types(m.getParameterTypes()) + m.getReturnType().getName());
      }
    }
    for (Field f : LeasedBuilds.class.getDeclaredFields()) {
      if (!Modifier.isPrivate(f.getModifiers())) {
        members.add(f.getName() + "=" + f.get(null));
      }
    }
    return members.toString();
  }

  private static String types(Class<?>[] parameters) {
    StringBuilder text = new StringBuilder("(");
    for (Class<?> parameter : parameters) {
      text.append(text.length() == 1 ? "" : ",").append(parameter.getName());
    }
    return text.append(")").toString();
  }

  private static void lookForForbiddenWords() throws IOException {
    String code = Files.readString(Path.of("src/main/java/LeasedBuilds.java"));
    String bare = code.replaceAll("(?s)/\\*.*?\\*/", "").replaceAll("//[^\n]*", "");
    Matcher matcher = FORBIDDEN.matcher(bare);
    CHECKS.due("forbidden word", matcher.find() ? matcher.group() : "none", "none");
  }

  private static void lookForPublicNamesInside() {
    TreeSet<String> open = new TreeSet<>();
    TreeSet<String> hidden = new TreeSet<>();
    for (Method m : LeasedBuilds.class.getDeclaredMethods()) {
      (Modifier.isPublic(m.getModifiers()) ? open : hidden).add(m.getName());
    }
    for (Class<?> inside : LeasedBuilds.class.getDeclaredClasses()) {
      CHECKS.due(inside.getName() + " static", Modifier.isStatic(inside.getModifiers()), true);
      for (Method m : inside.getDeclaredMethods()) {
        hidden.add(m.getName());
      }
    }
    hidden.retainAll(open);
    CHECKS.due("names of public methods on others", hidden.toString(), "[]");
  }
}
