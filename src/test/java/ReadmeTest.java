import java.io.IOException;
import java.nio.file.Files;
import java.nio.file.Path;
import java.util.ArrayList;
import java.util.Arrays;
import java.util.List;
import java.util.TreeSet;
import java.util.regex.Matcher;
import java.util.regex.Pattern;
import java.util.stream.Stream;

// What README.md tells holds when it is tried: the examples stand there as they are tried here.
public final class ReadmeTest {
  private static final Pattern EXAMPLE = Pattern.compile("    ((?:int \\w = )?x\\.\\w+\\(.*\\);) +// (-?\\d+): .*");

  public static void main(String[] args) throws IOException {
    String readme = Files.readString(Path.of("README.md"));
    examples(readme);
    files(readme);
    Due.end("ReadmeTest");
  }

  private static void examples(String readme) {
    Due.of("README", "How to use it");
    List<String> calls = new ArrayList<>();
    List<Integer> told = new ArrayList<>();
    Matcher m = EXAMPLE.matcher("");
    for (String line : readme.split("\n")) {
      if (!m.reset(line).matches()) continue;
      calls.add(m.group(1)); told.add(Integer.parseInt(m.group(2)));
    }
    List<Integer> due = new ArrayList<>();
    LadderOfRescued x = new LadderOfRescued();
    int p = x.person(14, 55300); due.add(p);
    due.add(x.door(p));
    int q = x.person(0, 40120); due.add(q);
    due.add(x.fire(q, 50));
    due.add(x.ladder(0));
    due.add(x.highest(5, 0));
    due.add(x.sheet(0, 2, 2));
    due.add(x.cell(0, 0, 55));
    due.add(x.cell(0, 1, 99));
    due.add(x.judge(0));
    due.add(x.heights(0, q, 1));
    List<String> tried = Arrays.asList("int p = x.person(14, 55300);", "x.door(p);", "int q = x.person(0, 40120);", "x.fire(q, 50);",
        "x.ladder(0);", "x.highest(5, 0);", "x.sheet(0, 2, 2);", "x.cell(0, 0, 55);", "x.cell(0, 1, 99);", "x.judge(0);", "x.heights(0, q, 1);");
    Due.yes("the calls are " + calls, calls.equals(tried));
    Due.yes("they answer " + due + ", told is " + told, told.equals(due));
    String text = "tall height + more ; bears strong ; comes 80 - rust * 5 ;";
    Due.yes("the text stands there", readme.contains("\n    " + text + "\n"));
    Due.is("the text is read", Due.read(x, text), 1);
    Due.is("it becomes the law", x.force(1), 0);
    Due.is("tall of a farmer with 4 more", x.asks(0, p, 0), 59);
  }

  private static void files(String readme) throws IOException {
    Due.of("README", "How to run its tests");
    Matcher m = Pattern.compile("(src/[\\w/]+(\\.java)?|\\.\\./shared/\\w+(\\.md)?|\\.ci/run)").matcher(readme);
    while (m.find()) Due.yes(m.group() + " is there", Files.exists(Path.of(m.group())));
    Due.yes(".ci/run is executable", Files.isExecutable(Path.of(".ci/run")));
    TreeSet<String> there = new TreeSet<>(), told = new TreeSet<>();
    try (Stream<Path> tests = Files.list(Path.of("src/test/java"))) {
      tests.forEach(t -> there.add(t.getFileName().toString().replace(".java", "")));
    }
    Matcher test = Pattern.compile("(?m)^- `(\\w+)`: ").matcher(readme);
    while (test.find()) told.add(test.group(1));
    Due.yes("the tests " + there + " are told: " + told, told.equals(there));
  }
}
