import java.io.IOException;
import java.nio.file.Files;
import java.nio.file.Path;
import java.util.List;
import java.util.stream.Stream;

/** That the README's example answers as it says, and that its list of tests is whole. */
public final class ReadmeTest {
  private static final Path README = Path.of("README.md");
  private static final Path TESTS = Path.of("src/test/java");

  /** The lines of the example that theExample() goes through, call by call. */
  private static final String EXAMPLE = """
      ```java
      AffineHulls x = new AffineHulls(3, 2);   // nodes 0 .. 2, variables 1 and 2
      x.term(1, 1);                            // the draft: variable 1 + 3
      x.term(0, 3);
      x.edge(0, 1, 1, 2);                      // edge 0, from node 0 to 1: variable 2 becomes that
      x.analyse();                             // 5 points in all
      x.equations(1);                          // 1
      x.coefficient(1, 0, 2);                  // 65520: variable 1 - variable 2 + 3 is 0 at node 1
      x.noteAll();                             // the equations of all nodes become notes
      x.sound();                               // true
      x.begin(1, 40);                          // a run begins at the entry
      x.go(0, 0);                              // true
      x.at(2);                                 // 43
      ```
      """;

  public static void main(String[] args) throws IOException {
    String readme = Files.readString(README);
    Due.is("the example is the one that is tested", readme.contains(EXAMPLE), true);
    theExample();
    for (String test : tests()) {
      Due.is(test + " is in the list of tests", readme.contains("| `" + test + "` |"), true);
    }
    Due.end();
  }

  private static void theExample() {
    AffineHulls x = new AffineHulls(3, 2);
    x.term(1, 1);
    x.term(0, 3);
    Due.is("edge(0, 1, 1, 2)", x.edge(0, 1, 1, 2), 0);
    Due.is("analyse()", x.analyse(), 5);
    Due.is("equations(1)", x.equations(1), 1);
    Due.equationIs(x, 1, 0, 3, 1, 65520);
    Due.is("noteAll()", x.noteAll(), 4);
    Due.is("sound()", x.sound(), true);
    x.begin(1, 40);
    Due.is("at(0)", x.at(0), 0);
    Due.is("go(0, 0)", x.go(0, 0), true);
    Due.is("at(2)", x.at(2), 43);
  }

  private static List<String> tests() throws IOException {
    try (Stream<Path> files = Files.list(TESTS)) {
      return files.map(file -> file.getFileName().toString())
          .filter(name -> name.endsWith("Test.java"))
          .map(name -> name.substring(0, name.length() - ".java".length()))
          .sorted().toList();
    }
  }
}
