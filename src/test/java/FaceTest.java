import java.lang.reflect.Constructor;
import java.lang.reflect.Field;
import java.lang.reflect.Method;
import java.lang.reflect.Modifier;
import java.nio.file.Files;
import java.nio.file.Path;
import java.util.ArrayList;
import java.util.Arrays;
import java.util.List;
import java.util.Set;
import java.util.TreeSet;
import java.util.regex.Matcher;
import java.util.regex.Pattern;

/** The document's face, and what of LANGUAGE.md can be seen from outside or in the text. */
public final class FaceTest {
  private static final String FACE = "copy(int,int,int,int,int):int count(int):int cell(int,int,int,int):int clear():int "
      + "depth(int,int):int drag(int,int):int drift(int,int,int):int drop(int):int far(int):int film(int,int,int,int):int "
      + "fits(int,int):int held(int,int,int):int image():int item(int,int,int,int):int may(int,int):int most():int "
      + "moves(int):int next():int odds(int,int):long piece(int,int,int,int,int):int restore():int ring(int,int,int):int "
      + "rings():int sea(int,int):int set(int,int):int sheet(int,int,int):int should(int,int,int,int):long type(long,int):int "
      + "way(int,int):int ways():int weight():long where(int):int";

  public static void main(String[] args) throws Exception {
    methods();
    constants();
    classesInside();
    text(Files.readString(Path.of("src/main/java/SevenRings.java")));
    Check.end();
  }

  private static String signature(Method m) {
    List<String> types = new ArrayList<>();
    for (Class<?> type : m.getParameterTypes()) types.add(type.getName());
    return m.getName() + "(" + String.join(",", types) + "):" + m.getReturnType().getName();
  }

  private static void methods() {
    Set<String> due = new TreeSet<>(Arrays.asList(FACE.split(" ")));
    Set<String> got = new TreeSet<>();
    for (Method m : SevenRings.class.getDeclaredMethods()) {
      if (Modifier.isPrivate(m.getModifiers()) || m.isSynthetic()) continue;
      Check.holds(m.getName() + " is public and of an object", m.getModifiers() == Modifier.PUBLIC);
      got.add(signature(m));
    }
    Check.holds("the methods are " + got, got.equals(due));
    Check.due("methods", due.size(), 32);
    Constructor<?>[] made = SevenRings.class.getDeclaredConstructors();
    Check.due("constructors", made.length, 1);
    Check.holds("the constructor is public and plain", made[0].getModifiers() == Modifier.PUBLIC && made[0].getParameterCount() == 0);
    Check.holds("the class is public and final", SevenRings.class.getModifiers() == (Modifier.PUBLIC | Modifier.FINAL));
  }

  private static void constants() throws Exception {
    int publicOnes = 0;
    for (Field f : SevenRings.class.getDeclaredFields()) {
      if (f.isSynthetic() || Modifier.isPrivate(f.getModifiers())) continue;
      publicOnes++;
      Check.holds(f.getName(), f.getModifiers() == (Modifier.PUBLIC | Modifier.STATIC | Modifier.FINAL) && f.getType() == int.class);
    }
    Check.due("constants", publicOnes, 8);
    Check.due("BAD", SevenRings.BAD, -1);
    Check.due("NOT", SevenRings.NOT, -2);
    Check.due("FULL", SevenRings.FULL, -3);
    Check.due("NONE", SevenRings.NONE, -4);
    Check.due("NULL", SevenRings.NULL, -11);
    Check.due("CAST", SevenRings.CAST, -12);
    Check.due("INDEX", SevenRings.INDEX, -13);
    Check.due("SIZE", SevenRings.SIZE, -14);
  }

  private static void classesInside() {
    Set<String> publicNames = new TreeSet<>();
    for (String s : FACE.split(" ")) publicNames.add(s.substring(0, s.indexOf('(')));
    List<Class<?>> all = new ArrayList<>(Arrays.asList(SevenRings.class.getDeclaredClasses()));
    for (Class<?> c : all) {
      Check.holds(c + " is static and not public", Modifier.isStatic(c.getModifiers()) && !Modifier.isPublic(c.getModifiers()));
    }
    all.add(SevenRings.class);
    Check.holds("rule 11: at most twelve classes", all.size() <= 12);
    for (Class<?> c : all) {
      int fields = 0;
      for (Field f : c.getDeclaredFields()) {
        if (!Modifier.isStatic(f.getModifiers())) fields++;
        else Check.holds("rule 5: " + f, Modifier.isFinal(f.getModifiers()));
      }
      Check.holds("rule 11: fields of " + c + ": " + fields, fields <= 20);
      for (Method m : c.getDeclaredMethods()) {
        Check.holds("rule 11: parameters of " + m, m.getParameterCount() <= 7);
        if (c != SevenRings.class || Modifier.isPrivate(m.getModifiers())) {
          Check.holds("rule 1: " + m + " bears the name of a public one", !publicNames.contains(m.getName()));
        }
      }
    }
  }

  private static void text(String text) {
    String code = text.replaceAll("(?s)/\\*.*?\\*/", "").replaceAll("//.*", "");
    String[] never = {"\\bimport\\b", "\\bpackage\\b", "->", "::", "\\bcatch\\b", "\\btry\\b", "\\bthrow", "\\bfinally\\b",
        "\\bsynchronized\\b", "\\bassert\\b", "Exact\\b", "\\bdouble\\b", "\\bfloat\\b", "static\\s*\\{", "\\bSystem\\.(?!arraycopy\\b)",
        "\\bThread\\b", "\\bRandom\\b", "\\btoString\\b", "\\bhashCode\\b", "\\.equals\\b", "for \\(;;\\)", "while \\(true\\)"};
    for (String n : never) {
      Matcher m = Pattern.compile(n).matcher(code);
      Check.holds("the text has no " + n, !m.find());
    }
    for (int i = 0; i < text.length(); i++) Check.holds("signs are plain", text.charAt(i) < 128);
    String[] lines = text.split("\n");
    int start = -1;
    for (int i = 0; i < lines.length; i++) {
      if (lines[i].matches("\\s+(public |private |static |final )*[\\w\\[\\]]+ \\w+\\(.*\\) \\{")) start = i;
      if (start >= 0 && i - start > 60) {
        Check.holds("rule 11: the method at line " + (start + 1) + " is short", false);
        start = -1;
      }
      if (start >= 0 && lines[i].equals(lines[start].replaceAll("\\S.*", "") + "}")) start = -1;
    }
  }
}
