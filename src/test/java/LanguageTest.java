import java.lang.reflect.Constructor;
import java.lang.reflect.Field;
import java.lang.reflect.Method;
import java.lang.reflect.Modifier;
import java.nio.file.Files;
import java.nio.file.Path;
import java.util.ArrayList;
import java.util.Arrays;
import java.util.HashSet;
import java.util.List;
import java.util.Set;
import java.util.regex.Matcher;
import java.util.regex.Pattern;

/** What of LANGUAGE.md, and of the document's face, can be seen without running the class. */
public final class LanguageTest {
  private static final String[] FACE = {
    "boolean over(int)",
    "boolean steps(int,int,int,int,int,int,int,int,int)",
    "boolean loop(int,int,int)",
    "boolean table(int,int,int)",
    "boolean start(int,long)",
    "int tick(int)",
    "int run(int,int)",
    "long sum(int)",
    "int was(int,int)",
    "long behind(int)",
    "long missed(int)",
    "int ring(int)",
    "int tail()",
    "int leaves(int,long)",
    "boolean box(int,long,long)",
    "int kept(int,int)",
    "int word(int,int)",
    "int even(int)",
    "int weight(int)",
    "int clear()",
    "long read()",
    "int back(int,int)",
    "int range(int,int,int)",
    "int part(int,int)",
    "int spread()",
    "int about(int)",
    "int step(int)",
  };

  private static final String[] RULED_OUT = {
    "\\b(throw|throws|try|catch|finally|synchronized|assert|import|package|volatile|native)\\b",
    "\\bprotected\\b", "->", "::", "Exact\\b", "\\bcatch\\b",
    "\\b(System|Thread|Random|Object|Iterator|Optional|Character|Boolean|Short|Byte)\\b",
    "\\b(String|StringBuilder|ArrayList|List|Integer|Long|Double|Float|double|float)\\b",
    "\\bMath\\.(?!max\\b|min\\b|abs\\b|floorDiv\\b|floorMod\\b)",
    "[^\\x09\\x0a\\x20-\\x7e]",
    "while\\s*\\(\\s*true", "for\\s*\\(\\s*;\\s*;",
    // A division or a rest by a sign of its own: floorDiv stands where the divisor is looked at.
    "[^/*]/[^/*]", "%",
  };

  public static void main(String[] args) throws Exception {
    String path = args.length > 0 ? args[0] : "src/main/java/CoarseSteps.java";
    String code = withoutComments(Files.readString(Path.of(path)));
    faceIsTheDocuments();
    classesInsideAreStatic();
    nothingRuledOut(code);
    methodsAreShort(code);
    Check.end();
  }

  private static String withoutComments(String text) {
    return text.replaceAll("(?s)/\\*.*?\\*/", " ").replaceAll("//[^\\n]*", " ");
  }

  private static void faceIsTheDocuments() {
    Check.heading("rule 1");
    Class<?> face = CoarseSteps.class;
    Check.same("modifiers", Modifier.PUBLIC | Modifier.FINAL, face.getModifiers());
    Set<String> open = new HashSet<>();
    Set<String> names = new HashSet<>();
    for (Method method : face.getDeclaredMethods()) {
      if (!Modifier.isPrivate(method.getModifiers())) {
        Check.same(method + " is public, no more", Modifier.PUBLIC, method.getModifiers());
        open.add(written(method));
        names.add(method.getName());
      }
    }
    Check.yes("the methods " + open, open.equals(new HashSet<>(Arrays.asList(FACE))));
    Check.same("constructors", 1, face.getDeclaredConstructors().length);
    for (Constructor<?> constructor : face.getDeclaredConstructors()) {
      Check.same("constructor", Modifier.PUBLIC, constructor.getModifiers());
      Check.same("its parameters", 0, constructor.getParameterCount());
    }
    for (Class<?> some : allClasses()) {
      for (Method method : some.getDeclaredMethods()) {
        boolean isPrivate = Modifier.isPrivate(method.getModifiers());
        Check.no("private " + method, isPrivate && names.contains(method.getName()));
        boolean isFace = some == face && !isPrivate;
        Check.yes(method + ": seven parameters", isFace || method.getParameterCount() <= 7);
      }
    }
    fieldsAreHidden(face);
  }

  private static void fieldsAreHidden(Class<?> face) {
    for (Field field : face.getDeclaredFields()) {
      boolean isConstant = field.getName().equals("NONE") || field.getName().equals("REFUSED");
      Check.same(field + " is public", isConstant ? 1 : 0,
          Modifier.isPublic(field.getModifiers()) ? 1 : 0);
      Check.yes(field + " is hidden", isConstant || Modifier.isPrivate(field.getModifiers()));
    }
  }

  private static String written(Method method) {
    List<String> parameters = new ArrayList<>();
    for (Class<?> type : method.getParameterTypes()) {
      parameters.add(type.getName());
    }
    String name = method.getReturnType().getName() + " " + method.getName();
    return name + "(" + String.join(",", parameters) + ")";
  }

  private static List<Class<?>> allClasses() {
    List<Class<?>> all = new ArrayList<>();
    all.add(CoarseSteps.class);
    all.addAll(Arrays.asList(CoarseSteps.class.getDeclaredClasses()));
    return all;
  }

  private static void classesInsideAreStatic() {
    Check.heading("rules 2, 5 and 11");
    Check.yes("twelve classes at most", allClasses().size() <= 12);
    for (Class<?> some : allClasses()) {
      boolean isInside = some != CoarseSteps.class;
      Check.yes(some + " is static", !isInside || Modifier.isStatic(some.getModifiers()));
      Check.no(some + " is public", isInside && Modifier.isPublic(some.getModifiers()));
      Check.same(some + " has classes inside", 0, isInside ? some.getDeclaredClasses().length : 0);
      int own = 0;
      for (Field field : some.getDeclaredFields()) {
        boolean isStatic = Modifier.isStatic(field.getModifiers());
        own += isStatic ? 0 : 1;
        Check.yes(field + " is final", !isStatic || Modifier.isFinal(field.getModifiers()));
        Check.yes(field + " is a plain constant", !isStatic || field.getType().isPrimitive());
      }
      Check.yes(some + " has twenty fields at most", own <= 20);
    }
  }

  private static void nothingRuledOut(String code) {
    Check.heading("rules 3 to 7, 9 and 13");
    for (String pattern : RULED_OUT) {
      Matcher found = Pattern.compile(pattern).matcher(code);
      Check.no(pattern + " stands in the class", found.find());
    }
    Matcher division = Pattern.compile("floorDiv\\([^;]*?\\(long\\) ([a-z.]+)\\)").matcher(code);
    while (division.find()) {
      String by = division.group(1);
      Check.yes("a division by " + by, by.equals("scale.over") || by.equals("k"));
    }
  }

  private static void methodsAreShort(String code) {
    Check.heading("rule 11");
    int since = 0;
    String name = "";
    for (String line : code.split("\n")) {
      boolean begins = line.matches(" {2,4}[A-Za-z].*\\) \\{");
      since = begins ? 0 : since + 1;
      name = begins ? line.trim() : name;
      if (line.matches(" {2,4}\\}")) {
        Check.yes(name + " has sixty lines at most", since <= 60 || name.isEmpty());
        name = "";
      }
    }
  }
}
