import java.io.IOException;
import java.lang.reflect.Constructor;
import java.lang.reflect.Field;
import java.lang.reflect.Method;
import java.lang.reflect.Modifier;
import java.nio.file.Files;
import java.nio.file.Path;
import java.util.Arrays;
import java.util.List;
import java.util.Set;
import java.util.TreeSet;
import java.util.regex.Matcher;
import java.util.regex.Pattern;

// The face as the document has it, and what of ../shared/LANGUAGE.md can be seen from outside.
public final class LanguageTest {
  private static final String FACE =
      "int asks(int,int,int);int back();int cell(int,int,int);int chain(int);long come(int,int);int copy(int,int,int,int,int);"
      + "int count(int);int door(int);int drawn(int,int);int feed(int,int,int,int,int,int);int feud(int,int,int);int fewest(int);"
      + "int film(int);int fire(int,int);int force(int);int heights(int,int,int);int highest(int,int);int image();int judge(int);"
      + "int kinds(int,int,int);int ladder(int);int laws(int);int missed(int);int next(int);long odds(int,int,int,int);"
      + "int peopleBy(int,int,int,int);int person(int,int);int put(int,int,int);long reach(int,int);int rusts(int);"
      + "int sheet(int,int,int);int stand(int,int);int taken(int,int);int text();int told(int,int);int whose(int,int);"
      + "int winters(int);int years(int,int)";
  private static int wrong = 0;

  private static void due(String what, Object got, Object want) {
    if (!got.equals(want)) {
      wrong++;
      System.out.println(what + ": " + got + ", due is " + want);
    }
  }

  public static void main(String[] args) throws IOException {
    face();
    inside();
    source(Files.readString(Path.of("src/main/java/LadderOfRescued.java")));
    System.out.println(wrong == 0 ? "the language is kept" : wrong + " rules are broken");
    if (wrong != 0) System.exit(1);
  }

  private static void face() {
    Class<?> c = LadderOfRescued.class;
    due("class is public and final", Modifier.isPublic(c.getModifiers()) && Modifier.isFinal(c.getModifiers()), true);
    Set<String> open = new TreeSet<>();
    for (Method m : c.getDeclaredMethods()) {
      if (Modifier.isPrivate(m.getModifiers())) continue;
      due(m + " is public, not static", m.getModifiers(), Modifier.PUBLIC);
      StringBuilder b = new StringBuilder(m.getReturnType() + " " + m.getName() + "(");
      for (Class<?> p : m.getParameterTypes()) b.append(b.charAt(b.length() - 1) == '(' ? "" : ",").append(p);
      open.add(b.append(")").toString());
    }
    due("methods", open, new TreeSet<>(Arrays.asList(FACE.split(";"))));
    Set<String> constants = new TreeSet<>();
    for (Field f : c.getDeclaredFields()) {
      if (Modifier.isPrivate(f.getModifiers())) continue;
      due(f + " is a constant", f.getModifiers(), Modifier.PUBLIC | Modifier.STATIC | Modifier.FINAL);
      constants.add(f.getType() + " " + f.getName());
    }
    due("constants", constants.toString(), "[int BAD, int FULL, int NONE, int STATE, long NO]");
    Constructor<?>[] makers = c.getDeclaredConstructors();
    due("constructors", makers.length + " " + makers[0].getParameterCount() + " " + makers[0].getModifiers(), "1 0 1");
  }

  private static void inside() {
    Class<?>[] classes = LadderOfRescued.class.getDeclaredClasses();
    due("at most 12 classes", classes.length < 12, true);
    Set<String> open = new TreeSet<>();
    for (Method m : LadderOfRescued.class.getDeclaredMethods()) if (Modifier.isPublic(m.getModifiers())) open.add(m.getName());
    for (Class<?> c : classes) {
      due(c + " is static", Modifier.isStatic(c.getModifiers()), true);
      due(c + " is not public", Modifier.isPublic(c.getModifiers()) || Modifier.isProtected(c.getModifiers()), false);
      members(c, open);
    }
    members(LadderOfRescued.class, open);
  }

  private static void members(Class<?> c, Set<String> open) {
    int fields = 0;
    for (Field f : c.getDeclaredFields()) {
      if (Modifier.isStatic(f.getModifiers())) due(f + " is final", Modifier.isFinal(f.getModifiers()), true);
      else fields++;
    }
    due(c + " has at most 20 fields", fields <= 20, true);
    for (Method m : c.getDeclaredMethods()) {
      due(m + " has at most 7 parameters", m.getParameterCount() <= 7, true);
      if (!Modifier.isPublic(m.getModifiers())) due(m + " bears a name of its own", open.contains(m.getName()), false);
    }
  }

  private static void source(String s) {
    String code = s.replaceAll("(?s)/\\*.*?\\*/", "").replaceAll("//[^\n]*", "").replaceAll("\"[^\"\n]*\"", "\"\"");
    List<String> never = List.of("\\bthrows?\\b", "\\btry\\b", "\\bcatch\\b", "\\bfinally\\b", "\\bsynchronized\\b", "\\bassert\\b",
        "->", "::", "\\bvar\\b", "\\bpackage\\b", "\\bObject\\b", "\\bThread\\b", "\\bRandom\\b", "Exact\\b", "\\bnative\\b",
        "\\bSystem\\.(?!arraycopy\\b)", "\\bArrays\\.(?!(copyOf|copyOfRange|fill)\\b)", "\\bimport\\s+(?!java\\.util\\.(Arrays|ArrayList|List|Iterator);)",
        "\"\"\\s*\\+", "\\+\\s*\"\"", "@", "\\bstatic\\s*\\{", "\\bprotected\\b", "\\bString\\.",
        "\\b(Integer|Long|Math)\\.(?!(compare|max|min|abs|bitCount|floorDiv|floorMod)\\()");
    for (String bad : never) {
      Matcher m = Pattern.compile(bad).matcher(code);
      if (m.find()) due("source has " + bad, code.substring(m.start(), Math.min(code.length(), m.start() + 40)), "");
    }
    recursion(code.split("\n"));
    for (int i = 0; i < s.length(); i++) if (s.charAt(i) > 126) due("sign at " + i, (int) s.charAt(i), 0);
    int from = 0;
    String[] lines = s.split("\n");
    for (int i = 0; i < lines.length; i++) {
      if (lines[i].matches(" {4,8}(public|private).*\\) \\{")) from = i;
      if (lines[i].matches(" {4,8}\\}")) due("line " + (from + 1) + ": a method of " + (i - from) + " lines", lines[from].contains("class") || i - from <= 60, true);
    }
  }

  /** A method that calls itself is private and static; others call one another. */
  private static void recursion(String[] lines) {
    Pattern head = Pattern.compile(" {4,8}(public|private) (static )?[\\w\\[\\]]+ (\\w+)\\(.*\\) \\{");
    String name = null;
    boolean free = false;
    for (String line : lines) {
      Matcher m = head.matcher(line);
      if (m.matches()) {
        name = m.group(3);
        free = m.group(1).equals("private") && m.group(2) != null;
      } else if (name != null && Pattern.compile("(?<![.\\w])" + name + "\\(").matcher(line).find()) {
        due(name + " calls itself and is private and static", free, true);
      }
      if (line.matches(" {4}(}|private .*class .*)")) name = null;
    }
  }
}
