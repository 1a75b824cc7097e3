import java.io.IOException;
import java.nio.file.Files;
import java.nio.file.Path;
import java.util.stream.Collectors;

/** The example in README.md answers as it says there; it is run in the project's folder. */
public final class ReadmeTest {
    private static final Path README = Path.of("README.md");
    private static final Path THIS = Path.of("src/test/java/ReadmeTest.java");

    private ReadmeTest() {
    }

    public static void main(String[] arguments) throws IOException {
        Checks.holds("the example is that of README.md", Files.readString(README).contains(example()));
        runExample();
        Checks.end("ReadmeTest");
    }

    /** The lines between the two marks below, as they stand in README.md. */
    private static String example() throws IOException {
        return Files.readString(THIS).lines()
            .dropWhile(line -> !line.equals("        // README:"))
            .skip(1)
            .takeWhile(line -> !line.equals("        // :README"))
            .map(line -> line.isEmpty() ? line : line.substring(8))
            .collect(Collectors.joining("\n", "```java\n", "\n```\n"));
    }

    private static void runExample() {
        // README:
        SnakeTrades race = new SnakeTrades();
        int snake = race.snake(9, 2);           // 0: the number of the snake; its head is on 9, its tail on 2
        int there = race.turn(6);               // 6: the player 0 comes to this square
        for (int i = 0; i < 3; i++) {
            race.turn(3);                       // the players 1 to 3 come to the square 3
        }
        int dangers = race.dangers(0);          // 8: bit 3, with the throw 3 the player 0 would be bitten
        int onHead = race.turn(3);              // 9: the player 0 is bitten, but goes back only in the next turn
        int offer = race.cheapest(0, 0);        // 103: to the player 1 with 3 coins
        int reason = race.why(0, 0, 1, 2);      // 5: with 2 coins the player 1 would ask for more
        int coins = race.sell(0, 0, 1, 3);      // 1013: the player 1 has 13 coins then
        int refused = race.sell(1, 0, 0, 3);    // -13: reason 3, the player 0 has held the bite already

        for (char sign : "4(1a>2$3)1".toCharArray()) {
            race.append(sign);
        }
        int fault = race.fault();               // -5, NONE: the text is a complete script
        int orders = race.run();                // 1: a turn; the player 1 was hurt by it, so has nothing to sell
        int left = race.undo();                 // 4: as before run; 4 of 5 states are left in the history
        // :README
        Checks.due("snake", snake, 0);
        Checks.due("there", there, 6);
        Checks.due("dangers", dangers, 8);
        Checks.due("onHead", onHead, 9);
        Checks.due("offer", offer, 103);
        Checks.due("reason", reason, 5);
        Checks.due("coins", coins, 1013);
        Checks.due("refused", refused, -13);
        Checks.due("fault", fault, SnakeTrades.NONE);
        Checks.due("orders", orders, 1);
        Checks.due("left", left, 4);
    }
}
