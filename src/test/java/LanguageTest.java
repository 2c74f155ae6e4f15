import java.io.IOException;
import java.lang.reflect.Constructor;
import java.lang.reflect.Field;
import java.lang.reflect.InvocationTargetException;
import java.lang.reflect.Method;
import java.lang.reflect.Modifier;
import java.nio.file.Files;
import java.nio.file.Path;
import java.util.ArrayList;
import java.util.Arrays;
import java.util.List;
import java.util.Random;
import java.util.Set;
import java.util.TreeSet;
import java.util.regex.Matcher;
import java.util.regex.Pattern;

/** The rules of LANGUAGE.md that a text or a machine can tell: the face, the words, and that no call throws. */
public final class LanguageTest {
  private static final String FACE = "feed:5 society:1 fault:1 person:2 crosses:2 likes:2 engage:2 part:1 stroke:2 mark:2 undo:1 judge:2"
      + " perform:1 year:2 holds:0 breaks:0 breaking:0 pairings:0 partner:2 can:1 sure:0 most:0 triangle:0 monogram:2 fits:1"
      + " largest:0 misfits:0 change:3 blot:1 likely:3 look:1 marks:2 ask:2 wins:1 best:1 lasts:1 chance:2 likeliest:1 numbers:3"
      + " write:3 lists:2 image:1 restore:1 count:1";

  public static void main(String[] args) throws Exception {
    face();
    words();
    methods();
    noCallThrows();
    Check.end();
  }

  private static void face() {
    Set<String> want = new TreeSet<>(List.of(FACE.split(" ")));
    Set<String> got = new TreeSet<>();
    Set<String> names = new TreeSet<>();
    for (Method m : RingSign.class.getDeclaredMethods()) {
      if (Modifier.isPublic(m.getModifiers())) {
        got.add(m.getName() + ":" + m.getParameterCount());
        names.add(m.getName());
        Check.that(m.getName() + " answers", m.getReturnType() == (m.getName().equals("write") ? long.class : int.class));
      } else {
        Check.that("private: " + m, Modifier.isPrivate(m.getModifiers()));
      }
    }
    Check.that("the face: " + got, got.equals(want));
    for (Field f : RingSign.class.getDeclaredFields()) {
      boolean none = f.getName().equals("NONE");
      Check.that("field " + f, none ? Modifier.isPublic(f.getModifiers()) : Modifier.isPrivate(f.getModifiers()));
      Check.that("no other static state: " + f, !Modifier.isStatic(f.getModifiers()) || Modifier.isFinal(f.getModifiers()));
    }
    Check.due("constructors", RingSign.class.getDeclaredConstructors().length, 1);
    Check.that("final", Modifier.isFinal(RingSign.class.getModifiers()));
    Class<?>[] inside = RingSign.class.getDeclaredClasses();
    Check.that("classes", inside.length <= 11);
    for (Class<?> c : inside) {
      Check.that("static: " + c, Modifier.isStatic(c.getModifiers()) && !Modifier.isPublic(c.getModifiers()));
      int fields = 0;
      for (Field f : c.getDeclaredFields()) if (!Modifier.isStatic(f.getModifiers())) fields++;
      Check.that("fields of " + c, fields <= 20);
      for (Method m : c.getDeclaredMethods()) {
        Check.that("no name of the face: " + m, !names.contains(m.getName()));
        Check.that("parameters of " + m, m.getParameterCount() <= 7);
      }
      for (Constructor<?> k : c.getDeclaredConstructors()) Check.that("parameters of " + k, k.getParameterCount() <= 7);
    }
  }

  private static String source() throws IOException {
    return Files.readString(Path.of("src/main/java/RingSign.java"));
  }

  private static void words() throws IOException {
    String source = source();
    for (int i = 0; i < source.length(); i++) Check.that("sign at " + i, source.charAt(i) < 127);
    String bare = source.replaceAll("(?s)/\\*.*?\\*/", "").replaceAll("//[^\n]*", "");
    for (String word : "throw try catch synchronized assert package native volatile transient lambda System.out Exact @".split(" "))
      Check.that("no " + word, !Pattern.compile("(?<![\\w.])" + Pattern.quote(word) + "\\b").matcher(bare).find());
    Check.that("no ->", !bare.contains("->"));
    Check.that("no ::", !bare.contains("::"));
    Check.that("no static block", !Pattern.compile("static\\s*\\{").matcher(bare).find());
    Matcher imports = Pattern.compile("import (.*);").matcher(bare);
    while (imports.find()) Check.that("import " + imports.group(1), imports.group(1).equals("java.util.Arrays"));
    // Texts are not joined by +, and rows are made with the object alone: no call makes one.
    Check.that("no text joined by +", !Pattern.compile("\"\\s*\\+|\\+\\s*\"").matcher(bare).find());
    for (String line : bare.split("\n")) {
      if (line.contains("new ")) {
        Check.that("made with the object: " + line, line.trim().matches("(private )?final .* = new .*;|[a-zA-Z]+ = new [A-Z].*;"));
      }
    }
  }

  private static void methods() throws IOException {
    String[] lines = source().split("\n");
    int from = -1;
    String indent = "";
    for (int i = 0; i < lines.length; i++) {
      Matcher head = Pattern.compile("^( {4}| {8})(?!private static final class|class)[^ }*/].*\\) \\{$").matcher(lines[i]);
      if (from < 0 && head.matches()) {
        from = i;
        indent = head.group(1);
      } else if (from >= 0 && lines[i].equals(indent + "}")) {
        Check.that("a short method from line " + (from + 1), i - from <= 60);
        from = -1;
      }
    }
  }

  private static void noCallThrows() throws IllegalAccessException {
    String[] texts = {"", "society;", "society;person 7 7 7 shy 5;",
        "society;person 7 7 7 mark 2;person 7 7 7 mark 3;person 0 0 0 mark 1;person 0 0 0 mark 0;engaged 0 3;fits : cross = 0;likes : 9 - (whom - mark) * (whom - mark);",
        "society;person 7 7 7 shy 3;person 7 7 7 odds 0;person 1 2 4 shy 1;person 7 5 7;person 0 0 0;person 1 0 0;person 2 2 2 shy 10;likes : 999 * 999 * 999 - whom;"};
    int[] ints = {Integer.MIN_VALUE, Integer.MIN_VALUE + 1, -1000, -129, -3, -2, -1, 0, 1, 2, 3, 4, 5, 6, 7, 8, 9, 10, 11, 12, 16, 17, 18,
        20, 31, 40, 41, 63, 64, 127, 128, 255, 256, 511, 512, 900, 901, 65536, Integer.MAX_VALUE - 1, Integer.MAX_VALUE};
    List<Method> face = new ArrayList<>();
    for (Method m : RingSign.class.getDeclaredMethods()) if (Modifier.isPublic(m.getModifiers())) face.add(m);
    face.sort((a, b) -> a.getName().compareTo(b.getName()));
    Random lot = new Random(5);
    for (String text : texts) {
      for (int round = 0; round < 40; round++) {
        RingSign x = new RingSign();
        if (!text.isEmpty()) Check.tell(x, text);
        for (int i = 0; i < 512; i++) {
          Method m = face.get(lot.nextInt(face.size()));
          Object[] given = new Object[m.getParameterCount()];
          for (int a = 0; a < given.length; a++) {
            int v = lot.nextInt(3) == 0 ? ints[lot.nextInt(ints.length)] : lot.nextInt(8);
            given[a] = m.getParameterTypes()[a] == long.class ? (Object) (lot.nextBoolean() ? (long) v : lot.nextLong()) : (Object) v;
          }
          if (m.getName().equals("society") && lot.nextInt(5) > 0) continue;
          String call = m.getName() + Arrays.toString(given);
          try {
            m.invoke(x, given);
            Check.that(call, true);
          } catch (InvocationTargetException e) {
            Check.that(call + " threw " + e.getCause(), false);
          }
        }
      }
    }
  }
}
