import java.io.IOException;
import java.lang.reflect.Constructor;
import java.lang.reflect.Field;
import java.lang.reflect.Method;
import java.lang.reflect.Modifier;
import java.nio.file.Files;
import java.nio.file.Path;
import java.util.HashMap;
import java.util.HashSet;
import java.util.Map;
import java.util.Set;
import java.util.TreeSet;
import java.util.regex.Matcher;
import java.util.regex.Pattern;

/** The face of the class, and those rules of LANGUAGE.md that can be seen without running it. */
public final class LanguageTest {
  private static final Path SOURCE = Path.of("src/main/java/ThriftLock.java");
  private static final String[] OUTSIDE = {
      "\\bthrow\\b", "\\bthrows\\b", "\\btry\\b", "\\bcatch\\b", "\\bfinally\\b", "\\bsynchronized\\b",
      "\\bassert\\b", "\\bnative\\b", "\\bvolatile\\b", "\\btransient\\b", "->", "::", "\\w+Exact\\b",
      "\\bThread\\b", "\\bRandom\\b", "\\bcurrentTimeMillis\\b", "\\bnanoTime\\b", "\\bhashCode\\b",
      "\\bpackage\\b", "\\bprotected\\b", "\\bMIN_VALUE\\b", "\\bMAX_VALUE\\b", "\\bObject\\b"};
  private static final int MOST_LINES = 60, MOST_DEPTH = 8;
  private static final Check c = new Check();

  public static void main(String[] args) throws IOException, IllegalAccessException {
    face();
    insides();
    String text = Files.readString(SOURCE);
    source(text);
    methods(text);
    c.finish();
  }

  private static void holds(String what, boolean is) {
    c.due(what, is ? 1 : 0, 1);
  }

  private static String signature(Method m) {
    StringBuilder s = new StringBuilder(m.getReturnType().getSimpleName()).append(' ').append(m.getName()).append('(');
    for (Class<?> p : m.getParameterTypes()) {
      s.append(s.charAt(s.length() - 1) == '(' ? "" : ",").append(p.getSimpleName());
    }
    return s.append(')').toString();
  }

  private static void face() throws IllegalAccessException {
    c.on("rule 1, the face");
    Set<String> shown = new TreeSet<>();
    Set<String> shownNames = new HashSet<>();
    for (Method m : ThriftLock.class.getDeclaredMethods()) {
      if (!Modifier.isPrivate(m.getModifiers())) {
        holds(m + " is public, not static", Modifier.isPublic(m.getModifiers()) && !Modifier.isStatic(m.getModifiers()));
        shown.add(signature(m));
        shownNames.add(m.getName());
      }
    }
    Document document = new Document();
    holds("the document has thirty calls", document.calls().size() == 30);
    holds("the methods are those of the document: " + shown, shown.equals(withoutNames(document.calls())));
    Set<String> constants = constants();
    holds("the constants are those of the document: " + constants,
        constants.size() == 4 && constants.equals(document.constants()));
    Constructor<?>[] made = ThriftLock.class.getDeclaredConstructors();
    holds("one constructor", made.length == 1 && Modifier.isPublic(made[0].getModifiers())
        && made[0].getParameterCount() == 0);
    holds("public and final", ThriftLock.class.getModifiers() == (Modifier.PUBLIC | Modifier.FINAL));
    noNameTwice(ThriftLock.class, shownNames);
    for (Class<?> inside : ThriftLock.class.getDeclaredClasses()) {
      noNameTwice(inside, shownNames);
    }
  }

  private static Set<String> constants() throws IllegalAccessException {
    Set<String> shown = new TreeSet<>();
    for (Field f : ThriftLock.class.getDeclaredFields()) {
      if (!Modifier.isPrivate(f.getModifiers())) {
        holds(f + " is a public constant", f.getModifiers() == (Modifier.PUBLIC | Modifier.STATIC | Modifier.FINAL));
        holds(f + " is an int", f.getType() == int.class);
        shown.add(f.getName() + " = " + f.get(null));
      }
    }
    return shown;
  }

  private static Set<String> withoutNames(Set<String> calls) {
    Set<String> signatures = new TreeSet<>();
    for (String call : calls) {
      signatures.add(call.replaceAll("int \\w+([,)])", "int$1").replace(", ", ","));
    }
    return signatures;
  }

  private static void noNameTwice(Class<?> where, Set<String> shownNames) {
    for (Method m : where.getDeclaredMethods()) {
      if (where != ThriftLock.class || Modifier.isPrivate(m.getModifiers())) {
        holds(m + " bears no public method's name", !shownNames.contains(m.getName()));
      }
    }
  }

  private static void insides() {
    c.on("rules 2, 5, 11, the classes inside");
    Class<?>[] inside = ThriftLock.class.getDeclaredClasses();
    holds("at most twelve classes", inside.length + 1 <= 12);
    looksPlain(ThriftLock.class);
    for (Class<?> one : inside) {
      holds(one + " is static", Modifier.isStatic(one.getModifiers()));
      holds(one + " is not in sight", !Modifier.isPublic(one.getModifiers()) && !Modifier.isProtected(one.getModifiers()));
      looksPlain(one);
    }
  }

  private static void looksPlain(Class<?> one) {
    int fields = 0;
    for (Field f : one.getDeclaredFields()) {
      if (Modifier.isStatic(f.getModifiers())) {
        holds(f + " is final", Modifier.isFinal(f.getModifiers()));
      } else {
        fields++;
      }
    }
    holds(one + " has at most twenty fields", fields <= 20);
    for (Method m : one.getDeclaredMethods()) {
      holds(m + " takes at most seven", m.getParameterCount() <= 7);
    }
  }

  private static void source(String text) {
    c.on("rules 3, 4, 6, 13, the source");
    String bare = text.replaceAll("(?s)/\\*.*?\\*/", " ").replaceAll("//[^\n]*", " ");
    for (String word : OUTSIDE) {
      holds("no " + word, !Pattern.compile(word).matcher(bare).find());
    }
    Matcher imports = Pattern.compile("import\\s+([\\w.]+)").matcher(bare);
    while (imports.find()) {
      holds("import " + imports.group(1), Set.of("java.util.Arrays", "java.util.ArrayList", "java.util.List")
          .contains(imports.group(1)));
    }
    Matcher library = Pattern.compile("\\b(System|Arrays|Math|Integer|Long)\\.(\\w+)").matcher(bare);
    Set<String> allowed = Set.of("System.arraycopy", "Arrays.fill", "Arrays.copyOf", "Arrays.copyOfRange",
        "Math.min", "Math.max");
    while (library.find()) {
      holds(library.group(), allowed.contains(library.group()));
    }
    c.on("rule 7, divisors");
    Matcher divisors = Pattern.compile("[/%]=?\\s*(\\w+)").matcher(bare);
    while (divisors.find()) {
      holds("divided by a number that stands there: " + divisors.group(), divisors.group(1).matches("[1-9]\\d*"));
    }
  }

  private static void methods(String text) {
    c.on("rules 8, 11, the methods");
    // A method's last line is the first brace that stands as far in as its first line does.
    Matcher m = Pattern.compile("(?m)^( +)(?:public |private |static )*\\w+ (\\w+)\\([^)]*\\) \\{\n([\\s\\S]*?)^\\1\\}$")
        .matcher(text);
    Map<String, String> bodies = new HashMap<>();
    while (m.find()) {
      holds(m.group(2) + " is short", m.group(3).lines().count() <= MOST_LINES);
      holds(m.group(2) + " is no other method's name", bodies.put(m.group(2), m.group(3)) == null);
    }
    holds("all of them were found: " + bodies.size(), bodies.keySet().equals(methodNames()));
    for (String name : bodies.keySet()) {
      int deep = depth(name, bodies, 1);
      holds(name + " goes " + deep + " deep", deep <= MOST_DEPTH);
    }
  }

  private static Set<String> methodNames() {
    // The constructor is read like a method.
    Set<String> names = new HashSet<>(Set.of("ThriftLock"));
    for (Method m : ThriftLock.class.getDeclaredMethods()) {
      names.add(m.getName());
    }
    for (Class<?> inside : ThriftLock.class.getDeclaredClasses()) {
      for (Method m : inside.getDeclaredMethods()) {
        names.add(m.getName());
      }
    }
    return names;
  }

  /** How many calls stand open at once below a method, itself among them; recursion would go beyond the most. */
  private static int depth(String name, Map<String, String> bodies, int above) {
    int deepest = above;
    Matcher called = Pattern.compile("\\b(\\w+)\\(").matcher(bodies.get(name));
    while (called.find() && deepest <= MOST_DEPTH) {
      if (bodies.containsKey(called.group(1))) {
        deepest = Math.max(deepest, depth(called.group(1), bodies, above + 1));
      }
    }
    return deepest;
  }
}
