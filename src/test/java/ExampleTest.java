import java.io.IOException;
import java.nio.file.Files;
import java.nio.file.Path;

/** The lines that README.md shows stand here, and do what it says. */
final class ExampleTest {
    public static void main(String[] args) throws IOException {
        example();
        theLinesAreThoseOfTheReadme();
        Checks.end("ExampleTest");
    }

    private static void example() {
        Millrace factory = new Millrace();
        factory.setBought(0, 4, 2);
        factory.addLine(1, 0, 3, -1);
        factory.addOperation(1, 0, 0, 2);
        factory.addMachine(1, 0, 5, 50, 2, -1);
        int person = factory.addPerson(3, 8, 8);
        factory.setLevel(person, 0, 1);
        factory.buy(0, 6);
        int batch = factory.make(1, 2, 5);
        factory.run(24);
        int order = factory.order(1, 2, 30);
        if (factory.promise(order) == 2) {
            factory.ship(order);
        }
        int worked = factory.ledger(1);
        Checks.equal("2 hours of the machine and the person", worked, 16);
        Checks.equal("what was made is gone into what was shipped", factory.batch(batch, 3), 4);
        Checks.equal("shipped with its parts", factory.ledger(4), 40);
    }

    private static void theLinesAreThoseOfTheReadme() throws IOException {
        String here = Files.readString(Path.of("src/test/java/ExampleTest.java"));
        String readme = Files.readString(Path.of("README.md"));
        String code = readme.substring(readme.indexOf("```java\n") + 8);
        int lines = 0;
        for (String line : code.substring(0, code.indexOf("```")).split("\n")) {
            lines++;
            Checks.isTrue(line, here.contains("\n        " + line.replaceAll(" *//.*", "") + "\n"));
        }
        Checks.isTrue("there are lines", lines > 10);
    }
}
