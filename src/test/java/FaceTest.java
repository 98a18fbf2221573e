import java.io.IOException;
import java.lang.reflect.Constructor;
import java.lang.reflect.Field;
import java.lang.reflect.Method;
import java.lang.reflect.Modifier;
import java.nio.file.Files;
import java.nio.file.Path;
import java.util.Arrays;
import java.util.List;
import java.util.Set;
import java.util.TreeSet;

/** The public face of the document, and those rules of LANGUAGE.md that can be read off the class and its text. */
public final class FaceTest {
  private static final String[] FACE = {
    "int feed(int,int,int,int,int)", "int book(int)", "int plan(int)", "int fault()", "int where()", "int sink(int,int)",
    "int grip(int,int)", "boolean dead(int)", "int map(int,int)", "boolean height(int,int)", "boolean ground(int,int)",
    "int doubt(int)", "boolean weigh(int,int,int)", "boolean told(int,int)", "boolean forget(int)", "int of(int,int)",
    "int step(int,int,int,int)", "int worst(int,int)", "long mean(int,int,boolean)", "int way(int,int,boolean)", "int truths()",
    "int truth(int,int)", "int run(int,int,boolean,int)", "int led(int)", "int regret(int,int)",
    "long worth(int,int,int,boolean)", "int spared(int,int,int)", "int failing(int,int,int,int)", "int first(int)",
    "int costs(int,int,int)", "boolean dig(int,int)", "int out()", "int tryAt(int)", "int make(int,int)", "int count(int)",
    "int trouble()"};

  public static void main(String[] args) throws IOException {
    face();
    insides();
    text(Files.readString(Path.of("src/main/java/SoftWheels.java")));
    Due.end("FaceTest");
  }

  private static String told(Method m) {
    StringBuilder s = new StringBuilder(m.getReturnType().getSimpleName()).append(' ').append(m.getName()).append('(');
    for (int i = 0; i < m.getParameterCount(); i++) s.append(i > 0 ? "," : "").append(m.getParameterTypes()[i].getSimpleName());
    return s.append(')').toString();
  }

  private static void face() {
    Class<?> c = SoftWheels.class;
    Due.that("public and final", Modifier.isPublic(c.getModifiers()) && Modifier.isFinal(c.getModifiers()));
    Set<String> seen = new TreeSet<>();
    for (Method m : c.getDeclaredMethods()) {
      if (Modifier.isPublic(m.getModifiers())) seen.add(told(m));
      else Due.that(m + " is private", Modifier.isPrivate(m.getModifiers()));
    }
    Due.that("the face is " + seen, seen.equals(new TreeSet<>(Arrays.asList(FACE))));
    for (Field f : c.getDeclaredFields()) {
      Due.that(f + " is private", Modifier.isPrivate(f.getModifiers()) || f.getName().equals("NONE"));
      Due.that(f + " is no state of the class", !Modifier.isStatic(f.getModifiers()) || Modifier.isFinal(f.getModifiers()));
    }
    Constructor<?>[] made = c.getDeclaredConstructors();
    Due.that("one public constructor", made.length == 1 && Modifier.isPublic(made[0].getModifiers()) && made[0].getParameterCount() == 0);
    Due.same("NONE", SoftWheels.NONE, -1);
  }

  private static void insides() {
    Set<String> names = new TreeSet<>();
    for (String f : FACE) names.add(f.substring(f.indexOf(' ') + 1, f.indexOf('(')));
    Class<?>[] inside = SoftWheels.class.getDeclaredClasses();
    Due.that("some twelve classes", inside.length + 1 <= 12);
    int own = 0;
    for (Field f : SoftWheels.class.getDeclaredFields()) own += Modifier.isStatic(f.getModifiers()) ? 0 : 1;
    Due.that("some twenty fields: " + own, own <= 20);
    for (Class<?> c : inside) {
      Due.that(c + " is static", Modifier.isStatic(c.getModifiers()));
      int fields = 0;
      for (Field f : c.getDeclaredFields()) {
        if (!Modifier.isStatic(f.getModifiers())) fields++;
        Due.that(f + " is final if static", !Modifier.isStatic(f.getModifiers()) || Modifier.isFinal(f.getModifiers()));
      }
      Due.that("some twenty fields in " + c, fields <= 20);
      for (Method m : c.getDeclaredMethods()) {
        Due.that(m + " bears no name of the face", !names.contains(m.getName()));
        Due.that(m + " takes seven at most", m.getParameterCount() <= 7);
      }
    }
  }

  private static void text(String source) {
    String code = source.replaceAll("(?s)/\\*.*?\\*/", "").replaceAll("//[^\n]*", "");
    for (String no : List.of("Exact(", "->", "::", "catch", "finally", "synchronized", "assert ", "static {", "System.out", "getMessage",
        "Random", "currentTimeMillis", "nanoTime", "package ", "instanceof", "String +", "while (true)", "for (;;)", "var ", "...", "MIN_VALUE", "MAX_VALUE")) {
      Due.that("the text has no " + no, !code.contains(no));
    }
    for (String line : code.split("\n")) {
      if (line.startsWith("import ")) {
        Due.that(line, line.equals("import java.util.Arrays;") || line.equals("import java.util.NoSuchElementException;"));
      }
    }
    Due.that("only signs 1 to 127", source.chars().allMatch(c -> c > 0 && c < 128));
    int from = 0;
    String[] lines = source.split("\n");
    for (int i = 0; i < lines.length; i++) {
      if (lines[i].matches(" +[A-Za-z].*\\) (throws [A-Za-z]+ )?\\{") && !lines[i].trim().matches("(if|for|while|switch|\\}|else).*")) from = i;
      if (lines[i].matches("(    |        )\\}")) Due.that("a short method at line " + from, i - from <= 60);
    }
  }
}
