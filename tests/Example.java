import java.io.IOException;
import java.nio.file.Files;
import java.nio.file.Path;

/** The example of README.md: each line there stands here too, and answers what its comment says. */
public final class Example {
  private Example() { }

  public static void main(String[] args) throws IOException {
    String readme = Files.readString(Path.of("README.md"));
    String block = readme.substring(readme.indexOf("```java\n") + 8);
    block = block.substring(0, block.indexOf("```"));
    String source = Files.readString(Path.of("tests/Example.java"));
    int calls = 0;
    for (String line : block.split("\n")) {
      String code = line.replaceAll("//.*", "").trim().replaceAll(";$", "");
      if (code.isEmpty()) continue;
      String answer = line.replaceAll(".*//", "").trim().replaceAll("[: ].*", "");
      String here = code.startsWith("x.") ? "is(" + code + ", " + answer + ");" : code + ";";
      Due.is("stands here: " + here, source.contains("    " + here + "\n"), true);
      calls++;
    }
    Due.is("the example has calls", calls > 20, true);
    calls();
    Due.end();
  }

  private static void is(long got, long want) {
    Due.is("example, a number", got, want);
  }

  private static void is(boolean got, boolean want) {
    Due.is("example, true or false", got, want);
  }

  private static void calls() {
    GirlShots x = new GirlShots();
    is(x.feed(0x6d61726b, 0x20686174, 0x20363020, 0x333b7368, 0x6f74206f), 20);
    is(x.feed(0x6e652031, 0x3020303b, 0x73686f74, 0x2074776f, 0x20323020), 40);
    is(x.feed(0x313b6861, 0x73206f6e, 0x65206861, 0x7420303b, 0x68617320), 60);
    is(x.feed(0x74776f20, 0x68617420, 0x323b7061, 0x72747920, 0x70206861), 80);
    is(x.feed(0x74203120, 0x393b636f, 0x6c642031, 0x20313b70, 0x75727365), 100);
    is(x.feed(0x2031323b, 0x20202020, 0x20202020, 0x20202020, 0x20202020), 120);
    is(x.text(104), 8);
    is(x.fault(0), 0);
    is(x.named(0, 0x101a0000), 0);
    is(x.ahead(2, 4), 1);
    is(x.bribe(0), 7);
    is(x.tried(1, 0, 2), 0);
    is(x.keep(), 0);
    is(x.go(1), 1);
    is(x.mark(0, 2), 0);
    is(x.plums(0, 5), 13);
    is(x.tell(0, 2), true);
    is(x.shot(0, 3), 1);
    is(x.undo(), 1);
    is(x.go(9), 10);
    is(x.mark(0, 2), 1);
    is(x.shot(0, 4), 1);
    is(x.count(9), 2);
    is(x.back(), 0);
    is(x.see(1, 0, true), 0);
    is(x.struckHow(0), 992);
    is(x.there(1, 1), 1);
  }
}
