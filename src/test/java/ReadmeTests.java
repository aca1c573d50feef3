import java.io.File;
import java.io.IOException;
import java.lang.reflect.Method;
import java.lang.reflect.Modifier;
import java.nio.charset.StandardCharsets;
import java.nio.file.Files;
import java.nio.file.Path;
import java.nio.file.Paths;
import java.util.ArrayList;
import java.util.Collections;
import java.util.List;
import java.util.stream.Collectors;
import java.util.stream.Stream;

/** README.md can be followed as it stands: its example, its commands, its list of methods. */
public final class ReadmeTests extends Checks {
  private static final String EXAMPLE = "src/test/example/CryptExample.java";
  private static final String ALL_TESTS = ".ci/run\n";
  private static final String SHARED_TESTS = "../shared/tests";

  public static void main(String[] args) throws IOException, InterruptedException {
    String readme = text(Paths.get("README.md"));
    namesEveryMethod(readme);
    namesEveryTest(readme);
    showsTheExample(readme);
    commandsRun(readme);
    end("ReadmeTests");
  }

  private static void namesEveryMethod(String readme) {
    due("README.md tells new CryptSums()", readme.contains("`new CryptSums()`"), true);
    for (Method method : CryptSums.class.getDeclaredMethods()) {
      if (Modifier.isPublic(method.getModifiers())) {
        String listed = "\n- `" + method.getName() + "(";
        due("README.md lists " + method.getName(), readme.contains(listed), true);
      }
    }
  }

  private static void namesEveryTest(String readme) throws IOException {
    for (Path test : files(Paths.get("src/test/java"))) {
      String name = test.getFileName().toString().replace(".java", "");
      due("README.md names " + name, readme.contains("`" + name + "`"), true);
    }
  }

  private static void showsTheExample(String readme) throws IOException {
    due("README.md shows " + EXAMPLE, blocks(readme, "java"), List.of(text(Paths.get(EXAMPLE))));
  }

  /** In a copy, so that the commands leave nothing behind here. */
  private static void commandsRun(String readme) throws IOException, InterruptedException {
    Path room = Files.createTempDirectory("readme");
    try {
      Path main = room.resolve("main");
      copy(Paths.get("src"), main.resolve("src"));
      copy(Paths.get(SHARED_TESTS), main.resolve(SHARED_TESTS).normalize());
      List<String> commands = new ArrayList<>(blocks(readme, "sh"));
      due("README.md tells how to run all tests", commands.remove(ALL_TESTS), true);
      due(ALL_TESTS.trim() + " can be run", Files.isExecutable(Paths.get(ALL_TESTS.trim())), true);
      due("README.md's other commands", commands.size(), 3);
      for (int i = 0; i < commands.size(); i++) {
        String printed = printed(main, commands.get(i));
        if (i == 0) {
          due("the example's output", List.of(printed), blocks(readme, "text"));
        }
      }
    } finally {
      clear(room);
    }
  }

  private static String printed(Path place, String commands) throws IOException, InterruptedException {
    File log = Files.createTempFile("readme", ".log").toFile();
    try {
      Process process = new ProcessBuilder("sh", "-e", "-c", commands)
          .directory(place.toFile()).redirectErrorStream(true).redirectOutput(log).start();
      int code = process.waitFor();
      String printed = text(log.toPath());
      due("exit code of " + commands + printed, code, 0);
      return printed;
    } finally {
      Files.delete(log.toPath());
    }
  }

  /** The blocks of this kind between lines of three backquotes. */
  private static List<String> blocks(String readme, String kind) {
    List<String> blocks = new ArrayList<>();
    StringBuilder block = null;
    String opened = "";
    for (String line : readme.split("\n", -1)) {
      if (block == null && line.startsWith("```")) {
        opened = line.substring(3);
        block = new StringBuilder();
      } else if (line.equals("```")) {
        if (opened.equals(kind)) {
          blocks.add(block.toString());
        }
        block = null;
      } else if (block != null) {
        block.append(line).append('\n');
      }
    }
    return blocks;
  }

  private static String text(Path file) throws IOException {
    return new String(Files.readAllBytes(file), StandardCharsets.US_ASCII);
  }

  private static List<Path> files(Path directory) throws IOException {
    try (Stream<Path> walk = Files.walk(directory)) {
      return walk.filter(Files::isRegularFile).sorted().collect(Collectors.toList());
    }
  }

  private static void copy(Path from, Path to) throws IOException {
    for (Path file : files(from)) {
      Path copied = to.resolve(from.relativize(file));
      Files.createDirectories(copied.getParent());
      Files.write(copied, Files.readAllBytes(file));
    }
  }

  private static void clear(Path room) throws IOException {
    List<Path> all;
    try (Stream<Path> walk = Files.walk(room)) {
      all = walk.sorted(Collections.reverseOrder()).collect(Collectors.toList());
    }
    for (Path path : all) {
      Files.delete(path);
    }
  }
}
