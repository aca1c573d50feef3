import java.io.IOException;
import java.lang.reflect.Constructor;
import java.lang.reflect.Field;
import java.lang.reflect.Method;
import java.lang.reflect.Modifier;
import java.nio.charset.StandardCharsets;
import java.nio.file.Files;
import java.nio.file.Paths;
import java.util.ArrayList;
import java.util.Arrays;
import java.util.List;
import java.util.TreeSet;

/** The public face is the document's, and the source shows none of what LANGUAGE.md leaves out. */
public final class FaceTests {
  private static final String BOUNDS = " IndexOutOfBoundsException";
  private static final String ARGUMENT = " IllegalArgumentException";
  private static final String STATE = " IllegalStateException";
  private static final String[] FACE = {
    "int setFloor(int,int)" + ARGUMENT,
    "boolean pillar(int)" + BOUNDS,
    "int setSum(int,boolean,int)" + BOUNDS + ARGUMENT,
    "int put(int,int)" + BOUNDS + ARGUMENT + STATE,
    "int force()",
    "int stone(int)" + BOUNDS,
    "int corridor(int,boolean,int)" + BOUNDS,
    "int can(int)" + BOUNDS,
    "int count(int)" + BOUNDS,
    "int ways(int,int)" + ARGUMENT,
    "int forced(int,int)" + ARGUMENT,
    "int fillings()",
    "int tries()",
    "int solved(int)" + BOUNDS,
    "int next()",
    "int would(int,int)" + BOUNDS + ARGUMENT + STATE,
    "double mean()",
    "long digest()",
  };
  private static final String[] LEFT_OUT = {
    "import ", "->", "::", "catch", "finally", "synchronized", "assert ", "static {", "package ", "System.",
    "Object ", "@"
  };
  private static int wrong = 0;

  private static void due(String what, Object got, Object want) {
    if (!want.equals(got)) {
      wrong++;
      System.out.println(what + " is " + got + ", due is " + want);
    }
  }

  public static void main(String[] args) throws IOException {
    face();
    hiddenMembers();
    measures();
    source();
    System.out.println(wrong == 0 ? "FaceTests: all as due" : "FaceTests: " + wrong + " wrong");
    if (wrong != 0) {
      System.exit(1);
    }
  }

  private static void face() {
    TreeSet<String> told = new TreeSet<>();
    for (Method method : CryptSums.class.getDeclaredMethods()) {
      if (!Modifier.isPrivate(method.getModifiers())) {
        due(method.getName() + " public", Modifier.isPublic(method.getModifiers()), true);
        told.add(line(method));
      }
    }
    due("the face", told, new TreeSet<>(Arrays.asList(FACE)));
    Constructor<?>[] constructors = CryptSums.class.getDeclaredConstructors();
    due("constructors", constructors.length, 1);
    due("constructor public", Modifier.isPublic(constructors[0].getModifiers()), true);
    due("constructor's arguments", constructors[0].getParameterCount(), 0);
    due("class final", Modifier.isFinal(CryptSums.class.getModifiers()), true);
  }

  private static String line(Method method) {
    List<String> types = new ArrayList<>();
    for (Class<?> type : method.getParameterTypes()) {
      types.add(type.getSimpleName());
    }
    StringBuilder line = new StringBuilder(method.getReturnType().getSimpleName());
    line.append(' ').append(method.getName()).append('(').append(String.join(",", types)).append(')');
    for (Class<?> exception : method.getExceptionTypes()) {
      line.append(' ').append(exception.getSimpleName());
    }
    return line.toString();
  }

  private static void hiddenMembers() {
    TreeSet<String> face = new TreeSet<>();
    for (String line : FACE) {
      face.add(line.substring(line.indexOf(' ') + 1, line.indexOf('(')));
    }
    List<Class<?>> classes = new ArrayList<>(Arrays.asList(CryptSums.class.getDeclaredClasses()));
    for (Class<?> inside : classes) {
      due(inside + " static", Modifier.isStatic(inside.getModifiers()), true);
      due(inside + " hidden", Modifier.isPublic(inside.getModifiers()), false);
      for (Method method : inside.getDeclaredMethods()) {
        due(inside + " " + method.getName() + " has a name of the face", face.contains(method.getName()), false);
      }
    }
    classes.add(CryptSums.class);
    for (Method method : CryptSums.class.getDeclaredMethods()) {
      if (Modifier.isPrivate(method.getModifiers())) {
        due(method.getName() + " has a name of the face", face.contains(method.getName()), false);
      }
    }
    for (Class<?> held : classes) {
      for (Field field : held.getDeclaredFields()) {
        boolean isShared = Modifier.isStatic(field.getModifiers());
        due(field + " static, yet not final", isShared && !Modifier.isFinal(field.getModifiers()), false);
      }
    }
    for (Field field : CryptSums.class.getDeclaredFields()) {
      due(field + " private", Modifier.isPrivate(field.getModifiers()), true);
    }
  }

  /** Rules 3, 5 and 11 of LANGUAGE.md, as far as the class shows them. */
  private static void measures() {
    List<Class<?>> classes = new ArrayList<>(Arrays.asList(CryptSums.class.getDeclaredClasses()));
    classes.add(CryptSums.class);
    due("at most twelve classes", classes.size() <= 12, true);
    for (Class<?> held : classes) {
      int fields = 0;
      for (Field field : held.getDeclaredFields()) {
        boolean isConstant = Modifier.isStatic(field.getModifiers());
        fields += isConstant ? 0 : 1;
        due(field + " of a type for constants", !isConstant || field.getType().isPrimitive(), true);
        due(field + " of a type that is told", isTold(field.getType(), classes), true);
      }
      due(held + " at most twenty fields", fields <= 20, true);
      for (Method method : held.getDeclaredMethods()) {
        due(method + " at most seven parameters", method.getParameterCount() <= 7, true);
      }
    }
  }

  private static boolean isTold(Class<?> type, List<Class<?>> own) {
    Class<?> part = type.isArray() ? type.getComponentType() : type;
    return part.isPrimitive() || own.contains(part);
  }

  private static void source() throws IOException {
    byte[] bytes = Files.readAllBytes(Paths.get("src/main/java/CryptSums.java"));
    for (byte b : bytes) {
      if (b < 0) {
        due("a sign of the source", b, "1 to 127");
        break;
      }
    }
    String text = new String(bytes, StandardCharsets.US_ASCII);
    for (String part : LEFT_OUT) {
      due("the source has '" + part + "'", text.contains(part), false);
    }
    objectsMade(text);
  }

  /** Rule 12, kept more strictly: constructors make all objects, calls none but what they throw. */
  private static void objectsMade(String text) {
    boolean inConstructor = false;
    for (String line : text.split("\n")) {
      if (line.matches(" +(public )?[A-Z]\\w+\\(.*\\{")) {
        inConstructor = true;
      } else if (line.matches("  (  )?\\}")) {
        inConstructor = false;
      }
      boolean makes = line.matches(".*\\bnew\\b.*") && !line.trim().startsWith("throw new ");
      due("'" + line.trim() + "' makes an object in a call", makes && !inConstructor, false);
      due("'" + line.trim() + "' throws in a constructor", inConstructor && line.contains("throw "), false);
    }
  }
}
