import java.io.IOException;
import java.lang.reflect.Constructor;
import java.lang.reflect.Field;
import java.lang.reflect.Method;
import java.lang.reflect.Modifier;
import java.nio.charset.StandardCharsets;
import java.nio.file.Files;
import java.nio.file.Path;
import java.util.Arrays;
import java.util.List;
import java.util.Set;
import java.util.TreeSet;
import java.util.regex.Matcher;
import java.util.regex.Pattern;

/** The face of the class, and the rules of LANGUAGE.md that can be seen from outside or in the source. */
public final class Rules {
  private static final String FACE = "ahead(int,int)int agrees()int back()int believed()int breaks()int bribe(int)int chance(int,int,int)int "
      + "clerk(int)int count(int)int fault(int)int feed(int,int,int,int,int)int forget(int)boolean go(int)int keep()int known(int)boolean "
      + "law(int,int,int)long least(int)int mark(int,int)int move(int,int)boolean named(int,int)int noted()int order(int)int out(int)int "
      + "party(int,int)int plums(int,int)int rest(int,int,int)int rests(int,int)int run()int see(int,int,boolean)int shot(int,int)int "
      + "struckHow(int)int tell(int,int)boolean text(int)int there(int,int)long tried(int,int,int)int undo()int way(int,int)int without(int)int";
  private static final List<String> FORBIDDEN = List.of("synchronized", "assert", "finally", "instanceof", "var", "Exact", "getMessage",
      "->", "::", "Object", "System.out", "System.err", "nanoTime", "currentTimeMillis", "Random", "Thread", "Throwable",
      "ArrayIndexOutOfBoundsException", "NullPointerException", "ClassCastException", "NegativeArraySizeException", "catch", "while", "clone", "copyOf");

  public static void main(String[] args) throws IOException {
    face();
    fields();
    inside();
    String code = bare(Files.readString(Path.of("src/main/java/GirlShots.java"), StandardCharsets.US_ASCII));
    source(code);
    methods(code);
    made(code);
    Due.end();
  }

  private static void face() {
    Set<String> found = new TreeSet<>();
    Set<String> names = new TreeSet<>();
    for (Method method : GirlShots.class.getDeclaredMethods()) {
      if (Modifier.isPrivate(method.getModifiers())) continue;
      StringBuilder types = new StringBuilder();
      for (Class<?> type : method.getParameterTypes()) types.append(types.length() == 0 ? "" : ",").append(type.getSimpleName());
      found.add(method.getName() + "(" + types + ")" + method.getReturnType().getSimpleName());
      names.add(method.getName());
      Due.is("public and nothing else: " + method, method.getModifiers(), Modifier.PUBLIC);
      Due.is("throws of " + method, method.getExceptionTypes().length, method.getName().equals("mark") ? 2 : 0);
    }
    Due.is("the face: " + found, found.equals(new TreeSet<>(Arrays.asList(FACE.split(" ")))), true);
    for (Class<?> type : withInside())
      for (Method method : type.getDeclaredMethods())
        if (Modifier.isPrivate(method.getModifiers())) Due.is("1: private " + method, names.contains(method.getName()), false);
    Due.is("public and final", GirlShots.class.getModifiers(), Modifier.PUBLIC | Modifier.FINAL);
    Due.is("one constructor", GirlShots.class.getDeclaredConstructors().length, 1);
    for (Constructor<?> made : GirlShots.class.getDeclaredConstructors())
      Due.is("a public constructor without arguments", Modifier.isPublic(made.getModifiers()) && made.getParameterCount() == 0, true);
  }

  private static List<Class<?>> withInside() {
    List<Class<?>> all = new java.util.ArrayList<>(List.of(GirlShots.class.getDeclaredClasses()));
    all.add(GirlShots.class);
    return all;
  }

  private static void fields() {
    for (Class<?> type : withInside()) {
      int own = 0;
      for (Field field : type.getDeclaredFields()) {
        boolean isStatic = Modifier.isStatic(field.getModifiers());
        own += isStatic ? 0 : 1;
        Due.is("5: static and not final: " + field, isStatic && !Modifier.isFinal(field.getModifiers()), false);
        if (type == GirlShots.class)
          Due.is("1: " + field, Modifier.isPrivate(field.getModifiers()) != field.getName().equals("NONE"), true);
      }
      Due.is("11: " + own + " fields of " + type, own <= 20, true);
    }
  }

  private static void inside() {
    Class<?>[] all = GirlShots.class.getDeclaredClasses();
    Due.is("11: classes inside, " + all.length, all.length <= 12, true);
    for (Class<?> type : all) Due.is("1: static, not public " + type, Modifier.isStatic(type.getModifiers()) && !Modifier.isPublic(type.getModifiers()), true);
  }

  /** Without comments and without what stands in texts. */
  private static String bare(String source) {
    return source.replaceAll("(?s)/\\*.*?\\*/", "").replaceAll("//[^\n]*", "").replaceAll("\"[^\"\n]*\"", "\"\"");
  }

  private static void source(String code) {
    for (String word : FORBIDDEN) {
      boolean isWord = word.matches("\\w+") && !word.equals("Exact");
      Matcher found = Pattern.compile(isWord ? "\\b" + word + "\\b" : Pattern.quote(word)).matcher(code);
      Due.is("the source has " + word, found.find(), false);
    }
    Matcher imports = Pattern.compile("import ([\\w.]+);").matcher(code);
    while (imports.find()) Due.is("4: import " + imports.group(1), imports.group(1).equals("java.util.NoSuchElementException"), true);
    Matcher calls = Pattern.compile("\\b(Math|Integer|Long|System|Arrays|String|StringBuilder)\\.(\\w+)").matcher(code);
    while (calls.find()) Due.is("4: " + calls.group(), List.of("max", "min", "bitCount", "arraycopy").contains(calls.group(2)), true);
    Matcher thrown = Pattern.compile("throw ([^;]*);").matcher(code);
    while (thrown.find()) Due.is("6: " + thrown.group(), thrown.group(1).matches("new (IndexOutOfBounds|NoSuchElement)Exception\\(\"\"\\)"), true);
  }

  /** What is made is made with an object, once: every "new" stands in a field or behind throw. */
  private static void made(String code) {
    for (String line : code.split("\n")) {
      if (!line.matches(".*\\bnew\\b.*")) continue;
      boolean field = line.matches("(    |        )(private|final|private final) [\\w\\[\\]]+ \\w+ = new .*;");
      Due.is("made behind the constructors: " + line, field || line.contains("throw new"), true);
    }
  }

  private static void methods(String code) {
    String[] lines = code.split("\n");
    int from = -1;
    String head = "";
    for (int i = 0; i < lines.length; i++) {
      String line = lines[i];
      if (from < 0 && line.matches("(    |        )\\w.*\\) (throws [\\w, ]+)?\\{")) {
        from = i;
        head = line;
        int parameters = line.replaceAll("[^,]", "").length() + 1;
        Due.is("11: parameters of " + head, parameters <= 7 || line.contains("throws"), true);
      }
      if (from >= 0 && line.equals(head.replaceAll("\\S.*", "") + "}")) {
        Due.is("11: lines of " + head, i - from <= 60, true);
        from = -1;
      }
    }
  }
}
