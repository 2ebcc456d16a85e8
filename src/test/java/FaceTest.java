import java.io.IOException;
import java.lang.reflect.Constructor;
import java.lang.reflect.Field;
import java.lang.reflect.Method;
import java.lang.reflect.Modifier;
import java.nio.charset.StandardCharsets;
import java.nio.file.Files;
import java.nio.file.Path;
import java.util.Arrays;
import java.util.HashSet;
import java.util.List;
import java.util.Set;
import java.util.TreeSet;
import java.util.regex.Matcher;
import java.util.regex.Pattern;
import java.util.stream.Collectors;

/** The public face of the document, and what of LANGUAGE.md can be seen without reading the code. */
public final class FaceTest {
  private static final String INDEX = "IndexOutOfBoundsException";
  private static final String ARGUMENT = "IllegalArgumentException";
  private static final String STATE = "IllegalStateException";
  private static final Set<String> LIBRARY = Set.of("java.util.ArrayList", "java.util.Arrays", "java.util.List",
      "java.util.Iterator", "java.util.NoSuchElementException");
  /** Comments, texts and signs, in which every word may stand. */
  private static final String NOT_CODE =
      "(?s)/\\*.*?\\*/|//[^\\n]*|\"(?:\\\\.|[^\"\\\\])*\"|'(?:\\\\.|[^'\\\\])+'";
  private static final List<String> FORBIDDEN = List.of("::", "\\bfinally\\b", "\\bsynchronized\\b",
      "\\bassert\\b", "\\w+Exact\\b", "\\bstatic\\s*\\{", "\\bhashCode\\b", "\\bgetMessage\\b", "\\bThread\\b",
      "\\bSystem\\.(?!arraycopy\\b)", "\\brandom\\b", "\\bRandom\\b", "\\bextends\\s+\\w*Exception\\b",
      "\\btry\\s*\\(", "(?m)^(?!.*\\b(case|default)\\b).*->",
      "\\b(NullPointer|ArrayIndexOutOfBounds|ClassCast|NegativeArraySize|ArrayStore)Exception\\b",
      "\\b(Throwable|Error|Exception)\\b");

  public static void main(String[] args) throws IOException {
    Set<String> face = new TreeSet<>(List.of(
        "int open(int) " + ARGUMENT + " " + STATE,
        "int setWeight(int,int,int) " + INDEX + " " + ARGUMENT + " " + STATE,
        "int pass(int) " + ARGUMENT,
        "int today()",
        "int change(int,int,int,int) " + INDEX + " " + ARGUMENT + " " + STATE,
        "int add(int,int,int,int) " + INDEX + " " + ARGUMENT + " " + STATE,
        "int cancel(int,int) " + INDEX + " " + ARGUMENT + " " + STATE,
        "int reinstate(int,int) " + INDEX + " " + ARGUMENT + " " + STATE,
        "int takeBack(int) " + INDEX + " " + STATE,
        "int changes()",
        "int laidAnew(int) " + INDEX,
        "int value(int,int,int,int) " + INDEX + " " + ARGUMENT,
        "boolean isCovered(int,int,int) " + INDEX + " " + ARGUMENT,
        "int rate(int,int,int) " + INDEX + " " + ARGUMENT,
        "int segments(int,int) " + INDEX + " " + ARGUMENT,
        "int segmentStart(int,int,int) " + ARGUMENT + " " + INDEX,
        "int segmentPremium(int,int,int) " + ARGUMENT + " " + INDEX,
        "int premium(int,int) " + INDEX + " " + ARGUMENT,
        "int premiumByDays(int,int) " + INDEX + " " + ARGUMENT,
        "int bill(int) " + INDEX,
        "int billed(int) " + INDEX));
    Class<?> program = Backdater.class;
    Expect.due("the methods of the face", face, () -> openMethods(program));
    Expect.due("the class is public and final", true,
        () -> Modifier.isPublic(program.getModifiers()) && Modifier.isFinal(program.getModifiers()));
    Expect.due("the constructors", List.of("public Backdater()"),
        () -> Arrays.stream(program.getDeclaredConstructors()).map(Constructor::toString).toList());
    Expect.due("the constants", List.of("public static final int Backdater.NONE"),
        () -> Arrays.stream(program.getDeclaredFields())
            .filter(field -> !Modifier.isPrivate(field.getModifiers())).map(Field::toString).toList());
    Expect.due("no private method bears a public one's name", false, () -> hasNameTwice(program));
    String source = Files.readString(Path.of("src/main/java/Backdater.java"), StandardCharsets.UTF_8);
    Expect.due("signs are 1 to 127", true, () -> source.chars().allMatch(sign -> sign > 0 && sign < 128));
    String code = source.replaceAll(NOT_CODE, " ");
    Expect.due("a package line", false, () -> hasIn(code, "(?m)^\\s*package\\b"));
    Expect.due("imports beyond the library of rule 4", Set.of(), () -> strangeImports(code));
    for (String word : FORBIDDEN) {
      Expect.due("the code has " + word, false, () -> hasIn(code, word));
    }
    Expect.end("FaceTest");
  }

  private static boolean hasIn(String code, String word) {
    return Pattern.compile(word).matcher(code).find();
  }

  private static Set<String> strangeImports(String code) {
    Set<String> found = new TreeSet<>();
    Matcher line = Pattern.compile("(?m)^\\s*import\\s+([^;]+);").matcher(code);
    while (line.find()) {
      if (!LIBRARY.contains(line.group(1))) {
        found.add(line.group(1));
      }
    }
    return found;
  }

  private static Set<String> openMethods(Class<?> program) {
    Set<String> found = new TreeSet<>();
    for (Method method : program.getDeclaredMethods()) {
      if (Modifier.isPrivate(method.getModifiers())) {
        continue;
      }
      String modifiers = method.getModifiers() == Modifier.PUBLIC ? "" : "NOT PLAINLY PUBLIC ";
      String types = names(method.getParameterTypes(), ",");
      String exceptions = names(method.getExceptionTypes(), " ");
      found.add((modifiers + method.getReturnType().getSimpleName() + " " + method.getName()
          + "(" + types + ") " + exceptions).trim());
    }
    return found;
  }

  private static String names(Class<?>[] types, String between) {
    return Arrays.stream(types).map(Class::getSimpleName).collect(Collectors.joining(between));
  }

  private static boolean hasNameTwice(Class<?> program) {
    Set<String> open = new HashSet<>();
    for (Method method : program.getDeclaredMethods()) {
      if (Modifier.isPublic(method.getModifiers())) {
        open.add(method.getName());
      }
    }
    for (Method method : program.getDeclaredMethods()) {
      if (!Modifier.isPublic(method.getModifiers()) && open.contains(method.getName())) {
        return true;
      }
    }
    return false;
  }
}
