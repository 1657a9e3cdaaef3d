import java.nio.file.Files;
import java.nio.file.Path;

/** The rules of LANGUAGE.md that the file shows. */
public final class LanguageTest {
    private static final String FILE = "src/main/java/BoughtMondays.java";

    private LanguageTest() {
    }

    public static void main(String[] args) throws Exception {
        Path file = Path.of(args[0], FILE);
        for (String line : Files.readAllLines(file)) {
            Checks.holds("no longer than 120: " + line, line.length() <= 120);
        }
        if (hasCompiler()) {
            Rules.lookUp(file);
        } else {
            System.out.println("this java has no compiler in it: the rules are not looked up");
        }
        Checks.end("LanguageTest");
    }

    /** Java that came without javac can run the class, but has no tree of it to show. */
    private static boolean hasCompiler() {
        return ModuleLayer.boot().findModule("jdk.compiler").isPresent();
    }
}
