import java.io.IOException;
import java.lang.reflect.InvocationTargetException;
import java.lang.reflect.Method;
import java.nio.file.Files;
import java.nio.file.Path;
import java.util.ArrayList;
import java.util.Arrays;
import java.util.List;
import java.util.regex.Matcher;
import java.util.regex.Pattern;

/** README.md tells what holds: its run answers as it says, and its tables have the whole face of the document. */
public final class ReadmeTest {
  private static final Path README = Path.of("README.md");
  private static final Path DOCUMENT = Path.of("../shared/DOC.md");
  private static final Pattern CALL = Pattern.compile("drawer\\.(\\w+)\\(([^)]*)\\);\\s+// (throws \\w+|[^:]+): .*");
  private static final Pattern FACE = Pattern.compile("    public (\\w+ \\w+\\([^)]*\\))(?: throws ([^;]+))?;");
  private static final Pattern EXCEPTION = Pattern.compile("`(\\w+Exception)`: ");
  private static final Pattern WHAT = Pattern.compile("what not 0 to (\\d+)");

  public static void main(String[] args) throws IOException {
    List<String> readme = Files.readAllLines(README);
    runExample(readme);
    compareFace(readme);
    compareWhats(readme);
    Check.end("ReadmeTest");
  }

  private static void runExample(List<String> readme) {
    int from = readme.indexOf("Staggershelf drawer = new Staggershelf();");
    Check.same("README.md has a run", true, () -> from >= 0);
    Staggershelf drawer = new Staggershelf();
    for (int i = from + 1; from >= 0 && !readme.get(i).equals("```"); i++) {
      String line = readme.get(i);
      Matcher told = CALL.matcher(line);
      boolean isCall = told.matches();
      Check.same("is a call with its answer: " + line, true, () -> isCall);
      if (isCall) {
        String due = told.group(3).replace("throws ", "throws.").replace("\"", "");
        Check.same(line, due, () -> call(drawer, told.group(1), told.group(2)));
      }
    }
  }

  private static Object call(Staggershelf drawer, String name, String told) {
    Object[] args = told.isEmpty() ? new Object[0]
        : Arrays.stream(told.split(", ")).map(Integer::valueOf).toArray();
    Class<?>[] types = new Class<?>[args.length];
    Arrays.fill(types, int.class);
    try {
      Method method = Staggershelf.class.getMethod(name, types);
      return method.invoke(drawer, args);
    } catch (InvocationTargetException e) {
      throw (RuntimeException) e.getCause();
    } catch (ReflectiveOperationException e) {
      return e.toString();
    }
  }

  /** The document's methods, in its order, with their exceptions. */
  private static void compareFace(List<String> readme) throws IOException {
    List<String> due = new ArrayList<>();
    for (String line : Files.readAllLines(DOCUMENT)) {
      Matcher method = FACE.matcher(line);
      if (method.matches()) {
        due.add(method.group(1) + " " + Arrays.asList(method.group(2) == null ? new String[0] : method.group(2).split(", ")));
      }
    }
    List<String> got = new ArrayList<>();
    for (String line : readme) {
      String[] columns = columns(line);
      if (columns.length == 4 && columns[0].contains(" ") && columns[0].endsWith(")`")) {
        got.add(columns[0].replace("`", "") + " " + exceptions(columns[3]));
      }
    }
    Check.same("the document has 26 methods", 26, due::size);
    Check.same("the methods of README.md", due, () -> got);
  }

  private static List<String> exceptions(String column) {
    List<String> all = new ArrayList<>();
    Matcher exception = EXCEPTION.matcher(column);
    while (exception.find()) {
      all.add(exception.group(1));
    }
    return all;
  }

  /** Of each method that asks by numbers: they are told, all of them. */
  private static void compareWhats(List<String> readme) {
    int compared = 0;
    for (String line : readme) {
      String[] columns = columns(line);
      Matcher what = WHAT.matcher(columns.length == 4 ? columns[3] : "");
      if (what.find()) {
        String name = columns[0].replaceAll("^`\\w+ (\\w+)\\(.*", "`$1`");
        String numbers = whatsOf(readme, name);
        for (int number = 0; number <= Integer.parseInt(what.group(1)); number++) {
          String begin = (number == 0 ? "" : ", ") + number + " ";
          Check.same(name + " of " + number + " is told", true, () -> numbers.contains(begin));
        }
        compared++;
      }
    }
    int all = compared;
    Check.same("methods with numbers", 5, () -> all);
  }

  private static String whatsOf(List<String> readme, String name) {
    for (String line : readme) {
      String[] columns = columns(line);
      if (columns.length == 2 && columns[0].equals(name)) {
        return columns[1];
      }
    }
    return "";
  }

  /** The columns of a row of a table; none of another line. */
  private static String[] columns(String line) {
    if (!line.startsWith("| ") || !line.endsWith(" |")) {
      return new String[0];
    }
    // The last column ends with a bar, too: without it, and with empty columns kept.
    String[] all = line.substring(2, line.length() - 2).split("\\|", -1);
    for (int i = 0; i < all.length; i++) {
      all[i] = all[i].trim();
    }
    return all;
  }
}
