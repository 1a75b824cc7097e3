import java.io.IOException;
import java.lang.reflect.Method;
import java.lang.reflect.Modifier;
import java.nio.file.Files;
import java.nio.file.Path;
import java.util.ArrayList;
import java.util.List;
import java.util.Random;
import java.util.function.IntUnaryOperator;
import java.util.regex.Matcher;
import java.util.regex.Pattern;

/**
 * The document from its first line to its last: the sentences that name a boundary case by the tests of their own,
 * the others here; and no word of the document may be left out.
 */
public final class WholeDocumentTest extends Races {
    private static final Path SOURCE = Path.of("src/main/java/SnakeTrades.java");

    private final Document document;

    private WholeDocumentTest(Document document) {
        this.document = document;
    }

    public static void main(String[] arguments) throws IOException {
        Document document = new Document();
        TermsBoundariesTest.checkAll(document);
        HistoryBoundariesTest.checkAll(document);
        ActionsBoundariesTest.checkAll(document);
        QueriesBoundariesTest.checkAll(document);
        WholeDocumentTest test = new WholeDocumentTest(document);
        test.whatItIs();
        test.whatItTells();
        test.face();
        test.bitesAndTurns();
        test.tradesAndText();
        test.partsOfTheInterface();
        test.signatures();
        test.snakesAndTurns();
        test.settingsAndText();
        test.snapshot();
        test.numbersOfQueries();
        test.whatWouldBe();
        test.notPromised();
        document.nothingLeftOut();
        Checks.end("WholeDocumentTest");
    }

    private void rowDue(String call, IntUnaryOperator method, int... due) {
        for (int i = 0; i < due.length; i++) {
            due(call.replace("?", "" + i), method.applyAsInt(i), due[i]);
        }
    }

    // ---- What it is

    private void whatItIs() {
        document.section("What it is");
        document.sentence("A race over squares with snakes but without ladders, in which bites are traded:", () -> {
            SnakeTrades race = new SnakeTrades();
            race.snake(9, 2);
            due("turn(2) to a tail", race.turn(2), 2);
            due("player(0, 4)", race.player(0, 4), 2);
            due("player(0, 2)", race.player(0, 2), 0);
            for (int player = 1; player < 4; player++) {
                due("turn(1) below a tail", race.turn(1), 1);
            }
            due("turn(1) from a tail", race.turn(1), 3);
        });
        document.sentence("snakes that bite and sleep,", () -> {
            SnakeTrades race = withBite();
            rowDue("snakeOf(0, ?)", what -> race.snakeOf(0, what), 9, 2, 2, 1);
        });
        document.sentence("pairs of pieces that are not bitten,", () -> {
            SnakeTrades race = standing(8, 8, 8, 8);
            race.turn(1);
            race.snake(9, 2);
            due("turn(1) to the square of another piece", race.turn(1), 9);
            due("square(9, 0)", race.square(9, 0), 3);
            due("player(1, 6)", race.player(1, 6), 0);
            due("snakeOf(0, 3)", race.snakeOf(0, 3), 0);
        });
        document.sentence("bites that hurt only in the next turn,", () -> {
            SnakeTrades race = withBite();
            due("player(0, 0) when bitten", race.player(0, 0), 9);
            throwAll(race, "333");
            due("player(0, 0) ahead of the next turn", race.player(0, 0), 9);
            due("turn(1)", race.turn(1), 3);
        });
        document.sentence("bites that are sold for coins from player to player, debts,", () -> {
            SnakeTrades race = withBite();
            due("sell(0, 0, 1, 15)", race.sell(0, 0, 1, 15), 1025);
            due("player(0, 1) in debt", race.player(0, 1), 995);
        });
        document.label("; what later calls answer is free.");
    }

    private void whatItTells() {
        document.section("What it is");
        document.sentence("dice that are thrown or drawn,", () -> {
            SnakeTrades race = new SnakeTrades();
            due("turn(4)", race.turn(4), 4);
            due("play(0, 1)", race.play(0, 1), 1);
            due("player(1, 0), since 13849 is drawn", race.player(1, 0), 2);
        });
        document.sentence("the fewest throws to the end told in two ways,",
            () -> rowDue("fewest(0, ?)", way -> new SnakeTrades().fewest(0, way), 10, 10));
        document.sentence("dangers of the next throw,", () -> {
            SnakeTrades race = standing(6, 6, 6, 6);
            race.snake(7, 1);
            race.snake(12, 1);
            due("dangers(0)", race.dangers(0), 1 << 1 | 1 << 6);
        });
        document.sentence("the cheapest buyer,", () -> due("cheapest(0, 0)", withBite().cheapest(0, 0), 103));
        document.sentence("reasons why a trade is refused,", () -> {
            due("why(0, 0, 1, 2)", withBite().why(0, 0, 1, 2), 5);
            due("why(0, 0, 1, 31)", withBite().why(0, 0, 1, 31), 4);
        });
        document.sentence("and scripts that are read from a text.", () -> {
            SnakeTrades race = new SnakeTrades();
            race.snake(9, 2);
            write(race, "63333(0a>1$3)");
            due("run()", race.run(), 6);
            due("player(1, 1)", race.player(1, 1), 1013);
        });
    }

    // ---- The public face

    private void face() {
        document.section("The public face");
        List<String> told = faceOfTheClass();
        for (String line : document.lines()) {
            document.sentence(line, () -> {
                boolean isBracket = line.startsWith("public final class") || line.equals("}");
                Checks.holds("is in the class", isBracket ? sourceHas(line) : told.remove(line.trim()));
            });
        }
        Checks.holds("all of the class is in the face: " + told, told.isEmpty());
    }

    /** The public lines of the class, written as the document writes them. */
    private static List<String> faceOfTheClass() {
        List<String> lines = new ArrayList<>();
        Matcher line = Pattern.compile("(?m)^ {4}(public .*?)( \\{)?$").matcher(source());
        while (line.find()) {
            lines.add(line.group(1) + (line.group(2) == null ? "" : ";"));
        }
        return lines;
    }

    private static boolean sourceHas(String line) {
        return source().lines().anyMatch(line::equals);
    }

    private static String source() {
        try {
            return Files.readString(SOURCE);
        } catch (IOException missing) {
            return "";
        }
    }

    // ---- Terms

    private void bitesAndTurns() {
        document.section("Terms");
        document.label("Squares, players, snakes");
        document.sentence("each has a piece,", () -> {
            SnakeTrades race = new SnakeTrades();
            throwAll(race, "3456");
            rowDue("player(?, 0)", player -> race.player(player, 0), 3, 4, 5, 6);
        });
        document.section("Bites");
        document.sentence("A bite has a size, a holder, and all players who have held it so far.", () -> {
            SnakeTrades race = withBite();
            race.sell(0, 0, 2, 3);
            due("player(2, 2)", race.player(2, 2), 1);
            due("bite(2, 0, 0)", race.bite(2, 0, 0), 7);
            due("bite(2, 0, 3)", race.bite(2, 0, 3), 0b0101);
            due("bite(0, 0, 0)", race.bite(0, 0, 0), NO_SUCH);
        });
        document.sentence("The bites of a player hurt when the next turn of this player begins:", () -> {
            SnakeTrades race = withBite();
            rowDue("turn of the others", others -> race.turn(3), 6, 6, 6);
            due("player(0, 2) till then", race.player(0, 2), 1);
            due("turn(4)", race.turn(4), 6);
            due("player(0, 2) then", race.player(0, 2), 0);
        });
        document.section("A turn");
        document.sentence("A turn is that of the player whose turn it is, and", () -> {
            SnakeTrades race = withBite();
            String others = told(race);
            due("turn(5) of the player 1", race.turn(5), 8);
            rowDue("player(?, 0)", player -> race.player(player, 0), 9, 8, 3, 3);
            due("player(0, 2), whose turn it is not", race.player(0, 2), 1);
            Checks.holds("it changes something", !others.equals(told(race)));
        });
        document.sentence("2. The piece goes forward by the throw;", () -> {
            for (int dice = 1; dice <= 6; dice++) {
                due("turn(" + dice + ")", standing(48, 8, 8, 8).turn(dice), 48 + dice);
            }
        });
        document.label("3. If there is");
        document.label("5. Then it is");
    }

    private void tradesAndText() {
        document.section("Trades");
        document.sentence("A player sells a bite to another player with a number of coins:", () -> {
            SnakeTrades race = withBite();
            due("sell(0, 0, 3, 8)", race.sell(0, 0, 3, 8), 1018);
            rowDue("player(?, 2)", player -> race.player(player, 2), 0, 0, 0, 1);
            rowDue("player(?, 1)", player -> race.player(player, 1), 1002, 1010, 1010, 1018);
        });
        document.section("Text");
        document.sentence("A script is written as follows:", () -> {
            SnakeTrades race = new SnakeTrades();
            write(race, "4(1c>2$30)5");
            due("fault()", race.fault(), NONE);
        });
        document.sentence("order = throw | \"(\" seller bite \">\" buyer coins \")\"", () -> {
            SnakeTrades race = new SnakeTrades();
            String order = "(0a>1$5)";
            for (int length = 0; length < order.length(); length++) {
                write(race, order.substring(0, length));
                due("fault() of " + order.substring(0, length), race.fault(), length);
                write(race, order.substring(0, length) + order.substring(length + 1));
                due("fault() without the sign " + length, race.fault(), length);
            }
        });
        document.sentence("The orders mean: a turn with this throw, and a sale.", () -> {
            SnakeTrades written = withBite();
            SnakeTrades called = withBite();
            write(written, "4(0a>2$7)1");
            due("run()", written.run(), 3);
            called.turn(4);
            called.sell(0, 0, 2, 7);
            called.turn(1);
            Checks.holds("the same as by turn and sell", told(written).equals(told(called)));
        });
        document.section("Errors");
        document.label("The constants:");
    }

    /** The class tells the parts of the interface as the document does. */
    private void partsOfTheInterface() {
        document.section("Errors");
        Pattern pattern = Pattern.compile("Ahead of the calls (.*) the interface says: (---- .*)\\.");
        for (String line : document.lines()) {
            Matcher part = pattern.matcher(line);
            if (part.matches()) {
                document.sentence(line, () -> due(part.group(2), source().indexOf("// " + part.group(2) + "\n") > 0
                    && callsBehind("// " + part.group(2)).equals(part.group(1).replace("`", "")) ? 1 : 0, 1));
            }
        }
    }

    private static String callsBehind(String comment) {
        String source = source();
        int begin = source.indexOf(comment) + comment.length();
        Matcher call = Pattern.compile("(?m)^ {4}public \\w+ (\\w+)\\(")
            .matcher(source).region(begin, source.indexOf("\n    // ----", begin));
        List<String> calls = new ArrayList<>();
        while (call.find()) {
            calls.add(call.group(1));
        }
        return String.join(", ", calls);
    }

    // ---- Promise 1 to Promise 25

    private void signatures() {
        for (int promise = 1; promise <= 25; promise++) {
            document.section("Promise " + promise);
            String line = document.lines().get(0);
            String signature = line.substring(0, line.indexOf("`: ") + 3);
            document.sentence(signature, () -> Checks.holds("is in the class",
                faceOfTheClass().contains("public " + signature.substring(1, signature.length() - 3) + ";")));
        }
    }

    private void snakesAndTurns() {
        document.section("Promise 2");
        document.sentence("Puts a snake on the squares.", () -> {
            SnakeTrades race = new SnakeTrades();
            race.snake(30, 20);
            due("square(30, 1)", race.square(30, 1), 0);
            due("square(20, 2)", race.square(20, 2), 1);
        });
        document.sentence("Returns the number of the snake;", () -> {
            SnakeTrades race = new SnakeTrades();
            due("snake(30, 20)", race.snake(30, 20), 0);
            due("snake(31, 20)", race.snake(31, 20), 1);
            race.charm(0, 10);
            due("snake(32, 20)", race.snake(32, 20), 0);
            due("snakeOf(0, 0)", race.snakeOf(0, 0), 32);
        });
        document.section("Promise 3");
        document.sentence("Charms a snake:", () -> {
            SnakeTrades race = withBite();
            due("charm(0, 3)", race.charm(0, 3), 2);
            due("snakeOf(0, 2)", race.snakeOf(0, 2), 5);
        });
        document.sentence("- `snake`: number of a snake", () -> wrongDue("charm(?, 1)", 0, 0,
            snake -> withBite().charm(snake, 1), NO_SUCH));
        document.section("Promise 4");
        document.sentence("Makes a turn.", () -> {
            SnakeTrades race = new SnakeTrades();
            race.turn(2);
            due("count(0)", race.count(0), 1);
            due("count(1)", race.count(1), 1);
        });
        document.sentence("Returns the square on which the piece stands then;", () -> {
            SnakeTrades race = withBite();
            due("turn(6)", race.turn(6), 9);
            due("player(1, 0)", race.player(1, 0), 9);
        });
        document.section("Promise 5");
        document.sentence("Makes turns with throws that are drawn:", () -> {
            SnakeTrades race = new SnakeTrades();
            due("play(1, 4)", race.play(1, 4), 4);
            int x = 1;
            for (int player = 0; player < 4; player++) {
                x = drawn(x);
                due("player(" + player + ", 0)", race.player(player, 0), 1 + x / 10923);
            }
        });
        document.section("Promise 6");
        document.sentence("A player sells a bite.", () -> {
            SnakeTrades race = withBite();
            due("sell(0, 0, 1, 3)", race.sell(0, 0, 1, 3), 1013);
            due("count(6)", race.count(6), 1);
        });
    }

    private void settingsAndText() {
        document.section("Promise 7");
        document.sentence("Changes a setting.", () -> {
            SnakeTrades race = new SnakeTrades();
            race.set(LIMIT, 31);
            rowDue("count(8 + ?)", setting -> race.count(8 + setting), 2, 31, 2);
        });
        document.sentence("- `value`: the new value", () -> {
            SnakeTrades race = new SnakeTrades();
            race.set(SLEEP, 7);
            due("count(8)", race.count(8), 7);
            due("set(SLEEP, 1)", race.set(SLEEP, 1), 7);
        });
        document.section("Promise 8");
        document.sentence("Appends a character to the text.", () -> {
            SnakeTrades race = new SnakeTrades();
            race.append('4');
            due("fault()", race.fault(), NONE);
            race.append('(');
            due("fault() with the second one", race.fault(), 2);
        });
        document.sentence("Returns the length of the text;", () -> {
            SnakeTrades race = new SnakeTrades();
            rowDue("append, when there are ?", before -> race.append('x'), 1, 2, 3);
        });
        document.section("Promise 10");
        document.sentence("Returns the fault of the text.", () -> {
            SnakeTrades race = new SnakeTrades();
            write(race, "61x");
            due("fault()", race.fault(), 2);
        });
        document.section("Promise 11");
        document.sentence("Carries out the orders of the text, one after the other, as turn and sell do,", () -> {
            SnakeTrades race = new SnakeTrades();
            race.snake(9, 2);
            write(race, "63333(0a>3$4)123");
            due("run()", race.run(), 9);
            rowDue("player(?, 0)", player -> race.player(player, 0), 9, 4, 5, 3);
            due("player(3, 2), which was hurt", race.player(3, 2), 0);
        });
    }

    private void snapshot() {
        document.section("Promise 13");
        document.sentence("Takes a snapshot of the state,", () -> {
            SnakeTrades race = withBite();
            String state = told(race);
            due("save()", race.save(), 5);
            race.turn(4);
            race.restore();
            Checks.holds("the state is that of the snapshot", told(race).equals(state));
        });
        document.section("Promise 14");
        document.sentence("Restores the state of the snapshot.", () -> {
            SnakeTrades race = withBite();
            race.save();
            race.charm(0, 10);
            race.set(TRADES, 3);
            throwAll(race, "666");
            due("restore()", race.restore(), 5);
            due("snakeOf(0, 0)", race.snakeOf(0, 0), 9);
            due("count(10)", race.count(10), 2);
            due("player(1, 0)", race.player(1, 0), 3);
        });
    }

    /** A race with a bite that was sold to the player 1, who is to throw. */
    private static SnakeTrades traded() {
        SnakeTrades race = withBite();
        race.sell(0, 0, 1, 3);
        return race;
    }

    private void numbersOfQueries() {
        SnakeTrades race = traded();
        document.section("Promise 15");
        document.label("- `what`:");
        document.sentence("Returns something about a player.",
            () -> rowDue("player(0, ?)", what -> race.player(0, what), 9, 1007, 0, 0, 9, NONE, 1, 0));
        document.sentence("Returns the number;",
            () -> rowDue("player(1, ?)", what -> race.player(1, what), 3, 1013, 1, 7, 0, NONE, 0, 0));
        document.section("Promise 16");
        document.label("- `what`:");
        document.sentence("Returns something about a bite.",
            () -> rowDue("bite(0, 0, ?)", what -> withBite().bite(0, 0, what), 7, 0, 0, 0b0001));
        document.sentence("(as a bit mask in which bit p stands for the player p)",
            () -> due("bite(1, 0, 3)", race.bite(1, 0, 3), 1 << 0 | 1 << 1));
        document.sentence("Returns the number;",
            () -> rowDue("bite(1, 0, ?)", what -> race.bite(1, 0, what), 7, 1, 0, 0b0011));
        document.section("Promise 17");
        document.sentence("Returns something about a snake.",
            () -> rowDue("snakeOf(0, ?)", what -> race.snakeOf(0, what), 9, 2, 2, 1));
        document.sentence("- `snake`: number of a snake",
            () -> wrongDue("snakeOf(?, 0)", 0, 0, snake -> race.snakeOf(snake, 0), NO_SUCH));
        document.label("- `what`:");
        document.sentence("Returns the number;", () -> {
            race.snake(40, 11);
            rowDue("snakeOf(1, ?)", what -> race.snakeOf(1, what), 40, 11, 0, 0);
        });
        document.section("Promise 18");
        document.label("- `what`:");
        document.sentence("Returns what is on a square.",
            () -> rowDue("square(9, ?)", what -> race.square(9, what), 0b0001, 0, 0));
        document.sentence("Returns the number;", () -> {
            rowDue("square(3, ?)", what -> race.square(3, what), 0b1110, NONE, 0);
            rowDue("square(11, ?)", what -> race.square(11, what), 0, NONE, 1);
        });
        document.section("Promise 19");
        document.label("- `what`:");
        document.sentence("Returns a number.",
            () -> rowDue("count(?)", what -> traded().count(what), 5, 1, 4, 1, 1, 1, 1, 40, 2, 20, 2, 5, 0));
        document.sentence("Returns the number;",
            () -> rowDue("count(?)", what -> over().count(what), 40, NONE, 0, 0, 0, 0, 0, 40, 2, 20, 2, 5, 0));
    }

    private void whatWouldBe() {
        document.section("Promise 20");
        document.sentence("Tells why a sale would be refused.", () -> {
            SnakeTrades race = withBite();
            for (int coins = 0; coins < 100; coins++) {
                due("why(0, 0, 1, " + coins + ")", race.why(0, 0, 1, coins), coins < 3 ? 5 : coins <= 30 ? 0 : 4);
            }
        });
        document.section("Promise 21");
        document.sentence("Returns 100 times the buyer plus the coins,", () -> {
            SnakeTrades race = withOneHome();
            race.snake(55, 34);
            due("turn(1)", race.turn(1), 55);
            due("cheapest(1, 0), of the size 21", race.cheapest(1, 0), 207);
        });
        document.section("Promise 22");
        document.sentence("Tells with which throws a player would be bitten in the next turn of this player,", () -> {
            SnakeTrades race = standing(6, 6, 6, 6);
            for (int dice = 1; dice <= 6; dice++) {
                race.snake(6 + dice, dice);
                due("dangers(0) with the throws up to " + dice, race.dangers(0), (1 << (dice + 1)) - 2);
            }
        });
        document.section("Promise 23");
        document.sentence("Tells with how many throws, chosen as well as possible, a player could come to the square 60,",
            () -> {
                for (int square = 0; square < 60; square++) {
                    int rounds = (square + 5) / 6;
                    SnakeTrades race = standing(square, rounds, rounds, rounds);
                    int due = (60 - square + 5) / 6;
                    rowDue("fewest(0, ?) from " + square, way -> race.fewest(0, way), due, due);
                }
            });
        document.section("Promise 25");
        document.sentence("Returns how far a player is.",
            () -> Checks.due("progress(0)", standing(45, 8, 8, 8).progress(0), 0.75));
    }

    // ---- Not promised

    private void notPromised() {
        document.section("Not promised");
        document.label("How the state is held inside the object is free, as are the speed of each call, the text of"
            + " toString and the behaviour of equals and hashCode.");
        document.label("Use of one object from several threads at once is not promised to be safe.");
        document.label("Nothing is promised beyond the answers and state changes described above,");
        document.sentence("and nothing about an object after its 512th call.", () -> {
            for (int seed = 0; seed < 20; seed++) {
                Checks.holds("but no call throws", callOften(new SnakeTrades(), new Random(seed)));
            }
        });
    }

    /** Rule 7 of ../shared/LANGUAGE.md: no call may throw by itself, for any arguments in any state. */
    private static boolean callOften(SnakeTrades race, Random random) {
        Method[] methods = SnakeTrades.class.getDeclaredMethods();
        for (int call = 0; call < 20000; call++) {
            Method method = methods[random.nextInt(methods.length)];
            if (!Modifier.isPublic(method.getModifiers())) {
                continue;
            }
            Object[] arguments = new Object[method.getParameterCount()];
            for (int i = 0; i < arguments.length; i++) {
                arguments[i] = random.nextInt(10) == 0 ? random.nextInt() : random.nextInt(random.nextInt(64) + 1);
            }
            try {
                method.invoke(race, arguments);
            } catch (ReflectiveOperationException thrown) {
                return false;
            }
        }
        return true;
    }
}
