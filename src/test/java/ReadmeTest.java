import java.io.ByteArrayOutputStream;
import java.io.File;
import java.io.IOException;
import java.io.PrintStream;
import java.nio.charset.StandardCharsets;
import java.nio.file.DirectoryStream;
import java.nio.file.Files;
import java.nio.file.Path;
import java.util.ArrayList;
import java.util.List;
import java.util.regex.Matcher;
import java.util.regex.Pattern;

/** The examples of README.md hold as they are written: the program, what it prints, the commands. */
public final class ReadmeTest {
  private static final Pattern ANSWER = Pattern.compile("System\\.out\\.println\\(.*\\); // ([^ :]+).*");

  public static void main(String[] args) throws Exception {
    String readme = read("README.md");
    String program = String.join("", blocks(readme, "java"));
    Check.same("the example of README.md", program, read("src/example/java/Example.java"));
    String due = answers(program) + String.join("", blocks(readme, "text"));
    Check.same("what the example prints", printed(), due);
    int commands = 0;
    for (String block : blocks(readme, "sh")) {
      for (String command : block.split("\n")) {
        commands++;
        checkCommand(command);
      }
    }
    Check.same("there are commands", commands > 0, true);
    try (DirectoryStream<Path> tests = Files.newDirectoryStream(Path.of("src/test/java"), "*Test.java")) {
      for (Path test : tests) {
        String name = test.getFileName().toString().replace(".java", "");
        Check.same("README.md tells of " + name, readme.contains("`" + name + "`"), true);
      }
    }
    Check.end("ReadmeTest");
  }

  private static String read(String path) throws IOException {
    return Files.readString(Path.of(path), StandardCharsets.UTF_8);
  }

  private static List<String> blocks(String text, String language) {
    List<String> blocks = new ArrayList<>();
    Matcher block = Pattern.compile("(?ms)^```" + language + "\n(.*?)^```$").matcher(text);
    while (block.find()) {
      blocks.add(block.group(1));
    }
    Check.same("README.md has a block of " + language, blocks.isEmpty(), false);
    return blocks;
  }

  private static String answers(String program) {
    StringBuilder answers = new StringBuilder();
    for (String line : program.split("\n")) {
      if (line.contains("System.out.println")) {
        Matcher answer = ANSWER.matcher(line.trim());
        Check.same("an answer stands behind: " + line, answer.matches(), true);
        answers.append(answer.matches() ? answer.group(1) : "").append("\n");
      }
    }
    return answers.toString();
  }

  private static String printed() throws Exception {
    PrintStream usual = System.out;
    ByteArrayOutputStream bytes = new ByteArrayOutputStream();
    System.setOut(new PrintStream(bytes, true, StandardCharsets.UTF_8));
    try {
      Class.forName("Example").getMethod("main", String[].class).invoke(null, (Object) new String[0]);
    } finally {
      System.setOut(usual);
    }
    return bytes.toString(StandardCharsets.UTF_8).replace(System.lineSeparator(), "\n");
  }

  /** Running the commands here would run this test in itself; so it is looked at whether they name what there is. */
  private static void checkCommand(String command) throws IOException {
    String[] words = command.split(" ");
    if (command.startsWith("javac -d out ")) {
      for (int n = 3; n < words.length; n++) {
        Check.same("there is " + words[n] + " of: " + command, isThere(words[n]), true);
      }
    } else if (command.startsWith("java -cp out ")) {
      Check.same("there is a main method for: " + command, hasMain(words[3]), true);
    } else {
      Check.same("it can be run: " + command, new File(command).canExecute(), true);
    }
  }

  private static boolean isThere(String path) throws IOException {
    int cut = path.lastIndexOf('/');
    try (DirectoryStream<Path> files = Files.newDirectoryStream(Path.of(path.substring(0, cut)), path.substring(cut + 1))) {
      return files.iterator().hasNext();
    }
  }

  private static boolean hasMain(String name) {
    try {
      return Class.forName(name).getMethod("main", String[].class) != null;
    } catch (ReflectiveOperationException e) {
      return false;
    }
  }
}
