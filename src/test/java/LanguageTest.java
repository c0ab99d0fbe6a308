import java.io.IOException;
import java.lang.reflect.Constructor;
import java.lang.reflect.Field;
import java.lang.reflect.Method;
import java.lang.reflect.Modifier;
import java.nio.file.Files;
import java.nio.file.Path;
import java.util.HashSet;
import java.util.Set;
import java.util.TreeSet;
import java.util.regex.Matcher;
import java.util.regex.Pattern;

/** The face of the class, and those rules of LANGUAGE.md that can be seen without running it. */
public final class LanguageTest {
  private static final Path SOURCE = Path.of("src/main/java/ThriftLock.java");
  private static final String[] FACE = {
      "int head(int)", "int basin(int,int,int)", "int back()", "int out(int)", "int leak(int,int)", "int read(int)",
      "int info(int,int)", "int chamber(int)", "int boat(int)", "int leave(int)", "int waits(int,int)",
      "int rule(int)", "int serve()", "int next(int)", "int turn()", "int ledger(int,int)", "int wipe()",
      "int total(int)", "int step(int)", "int ahead(int)", "int better(int,int)", "int needless(int)",
      "int sheet(int,int,int)", "int lose(int)", "int lay(int,int,int,int)", "int get(int,int,int)",
      "int copy(int,int,int,int,int)", "int write(int)", "int count(int)", "long digest()"};
  private static final String[] OUTSIDE = {
      "\\bthrow\\b", "\\bthrows\\b", "\\btry\\b", "\\bcatch\\b", "\\bfinally\\b", "\\bsynchronized\\b",
      "\\bassert\\b", "\\bnative\\b", "\\bvolatile\\b", "\\btransient\\b", "->", "::", "\\w+Exact\\b",
      "\\bThread\\b", "\\bRandom\\b", "\\bcurrentTimeMillis\\b", "\\bnanoTime\\b", "\\bhashCode\\b",
      "\\bpackage\\b", "\\bprotected\\b", "\\bMIN_VALUE\\b", "\\bMAX_VALUE\\b", "\\bObject\\b"};
  private static final Check c = new Check();

  public static void main(String[] args) throws IOException {
    face();
    insides();
    source(Files.readString(SOURCE));
    c.finish();
  }

  private static void holds(String what, boolean is) {
    c.due(what, is ? 1 : 0, 1);
  }

  private static String signature(Method m) {
    StringBuilder s = new StringBuilder(m.getReturnType().getSimpleName()).append(' ').append(m.getName()).append('(');
    for (Class<?> p : m.getParameterTypes()) {
      s.append(s.charAt(s.length() - 1) == '(' ? "" : ",").append(p.getSimpleName());
    }
    return s.append(')').toString();
  }

  private static void face() {
    c.on("rule 1, the face");
    Set<String> shown = new TreeSet<>();
    Set<String> shownNames = new HashSet<>();
    for (Method m : ThriftLock.class.getDeclaredMethods()) {
      if (!Modifier.isPrivate(m.getModifiers())) {
        holds(m + " is public, not static", Modifier.isPublic(m.getModifiers()) && !Modifier.isStatic(m.getModifiers()));
        shown.add(signature(m));
        shownNames.add(m.getName());
      }
    }
    holds("the methods are those of the document: " + shown, shown.equals(new TreeSet<>(Set.of(FACE))));
    Set<String> constants = new TreeSet<>();
    for (Field f : ThriftLock.class.getDeclaredFields()) {
      if (!Modifier.isPrivate(f.getModifiers())) {
        holds(f + " is a public constant", f.getModifiers() == (Modifier.PUBLIC | Modifier.STATIC | Modifier.FINAL));
        constants.add(f.getName());
      }
    }
    holds("the constants: " + constants, constants.equals(Set.of("NONE", "BAD", "NOT", "FULL")));
    Constructor<?>[] made = ThriftLock.class.getDeclaredConstructors();
    holds("one constructor", made.length == 1 && Modifier.isPublic(made[0].getModifiers())
        && made[0].getParameterCount() == 0);
    holds("public and final", ThriftLock.class.getModifiers() == (Modifier.PUBLIC | Modifier.FINAL));
    noNameTwice(ThriftLock.class, shownNames);
    for (Class<?> inside : ThriftLock.class.getDeclaredClasses()) {
      noNameTwice(inside, shownNames);
    }
  }

  private static void noNameTwice(Class<?> where, Set<String> shownNames) {
    for (Method m : where.getDeclaredMethods()) {
      if (where != ThriftLock.class || Modifier.isPrivate(m.getModifiers())) {
        holds(m + " bears no public method's name", !shownNames.contains(m.getName()));
      }
    }
  }

  private static void insides() {
    c.on("rules 2, 5, 11, the classes inside");
    Class<?>[] inside = ThriftLock.class.getDeclaredClasses();
    holds("at most twelve classes", inside.length + 1 <= 12);
    looksPlain(ThriftLock.class);
    for (Class<?> one : inside) {
      holds(one + " is static", Modifier.isStatic(one.getModifiers()));
      holds(one + " is not in sight", !Modifier.isPublic(one.getModifiers()) && !Modifier.isProtected(one.getModifiers()));
      looksPlain(one);
    }
  }

  private static void looksPlain(Class<?> one) {
    int fields = 0;
    for (Field f : one.getDeclaredFields()) {
      if (Modifier.isStatic(f.getModifiers())) {
        holds(f + " is final", Modifier.isFinal(f.getModifiers()));
      } else {
        fields++;
      }
    }
    holds(one + " has at most twenty fields", fields <= 20);
    for (Method m : one.getDeclaredMethods()) {
      holds(m + " takes at most seven", m.getParameterCount() <= 7);
    }
  }

  private static void source(String text) {
    c.on("rules 3, 4, 6, 13, the source");
    String bare = text.replaceAll("(?s)/\\*.*?\\*/", " ").replaceAll("//[^\n]*", " ");
    for (String word : OUTSIDE) {
      holds("no " + word, !Pattern.compile(word).matcher(bare).find());
    }
    Matcher imports = Pattern.compile("import\\s+([\\w.]+)").matcher(bare);
    while (imports.find()) {
      holds("import " + imports.group(1), Set.of("java.util.Arrays", "java.util.ArrayList", "java.util.List")
          .contains(imports.group(1)));
    }
    Matcher library = Pattern.compile("\\b(System|Arrays|Math|Integer|Long)\\.(\\w+)").matcher(bare);
    Set<String> allowed = Set.of("System.arraycopy", "Arrays.fill", "Arrays.copyOf", "Arrays.copyOfRange",
        "Math.min", "Math.max");
    while (library.find()) {
      holds(library.group(), allowed.contains(library.group()));
    }
    c.on("rule 7, divisors");
    Matcher divisors = Pattern.compile("[/%]=?\\s*(\\w+)").matcher(bare);
    while (divisors.find()) {
      holds("divided by a number that stands there: " + divisors.group(), divisors.group(1).matches("[1-9]\\d*"));
    }
  }
}
