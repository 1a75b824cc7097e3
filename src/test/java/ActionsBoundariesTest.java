import java.io.IOException;

/** Each sentence of the promises 1 to 14 that names a boundary case, with a test of its own. */
public final class ActionsBoundariesTest extends Races {
    private static final int PROMISES = 14;

    private final Document document;

    private ActionsBoundariesTest(Document document) {
        this.document = document;
    }

    public static void main(String[] arguments) throws IOException {
        checkAll(new Document());
        Checks.end("ActionsBoundariesTest");
    }

    static void checkAll(Document document) {
        ActionsBoundariesTest test = new ActionsBoundariesTest(document);
        test.newObject();
        test.snakeRanges();
        test.snakeCodes();
        test.charm();
        test.turn();
        test.playDraws();
        test.playEnds();
        test.playCodes();
        test.sellRanges();
        test.sellAnswers();
        test.set();
        test.append();
        test.clearTextAndFault();
        test.run();
        test.runAnswers();
        test.undo();
        test.save();
        test.restore();
        for (int promise = 1; promise <= PROMISES; promise++) {
            test.document.nothingLeftOut("Promise " + promise);
        }
    }

    private void newObject() {
        document.section("Promise 1");
        document.sentence("Creates a race without snakes, at its beginning, with an empty text and an empty history,"
            + " without a snapshot.", () -> {
                SnakeTrades used = over();
                used.save();
                write(used, "66");
                SnakeTrades race = new SnakeTrades();
                due("count(3)", race.count(3), 0);
                for (int number = 0; number < 10; number++) {
                    due("snakeOf(" + number + ", 0)", race.snakeOf(number, 0), NO_SUCH);
                }
                due("count(0)", race.count(0), 0);
                due("count(1)", race.count(1), 0);
                due("square(0, 0)", race.square(0, 0), 15);
                due("count(12)", race.count(12), 0);
                due("clearText()", race.clearText(), 0);
                due("count(11)", race.count(11), 0);
                due("undo()", race.undo(), NONE);
                due("restore()", race.restore(), NOT_POSSIBLE);
            });
    }

    // ---- 2 and 3: snakes

    private void snakeRanges() {
        document.section("Promise 2");
        document.sentence("- `head`: 7 to 59", () -> {
            due("snake(7, 1)", new SnakeTrades().snake(7, 1), 0);
            due("snake(59, 30)", new SnakeTrades().snake(59, 30), 0);
            due("snake(60, 30)", new SnakeTrades().snake(60, 30), BAD_VALUE);
            wrongDue("snake(?, 30)", 36, 59, head -> new SnakeTrades().snake(head, 30), BAD_VALUE);
        });
        document.sentence("- `tail`: 1 to 53: the head less the tail has to be from 6 to 40", () -> {
            due("snake(30, 1)", new SnakeTrades().snake(30, 1), 0);
            due("snake(59, 53)", new SnakeTrades().snake(59, 53), 0);
            due("snake(30, 0)", new SnakeTrades().snake(30, 0), BAD_VALUE);
            for (int head = 1; head <= 65; head++) {
                for (int tail = -2; tail <= 60; tail++) {
                    boolean fits = head >= 7 && head <= 59 && tail >= 1 && tail <= 53 && head - tail >= 6
                        && head - tail <= 40;
                    due("snake(" + head + ", " + tail + ")", new SnakeTrades().snake(head, tail),
                        fits ? 0 : BAD_VALUE);
                }
            }
        });
    }

    private void snakeCodes() {
        document.section("Promise 2");
        document.sentence("BAD_VALUE if head or tail is out of range, or the head less the tail is not from 6 to 40",
            () -> {
                SnakeTrades race = new SnakeTrades();
                due("snake(30, 25)", race.snake(30, 25), BAD_VALUE);
                due("snake(30, 24)", race.snake(30, 24), 0);
                due("snake(50, 9)", race.snake(50, 9), BAD_VALUE);
                due("snake(50, 10)", race.snake(50, 10), 1);
                wrongDue("snake(40, ?)", 1, 34, tail -> race.snake(40, tail), BAD_VALUE);
                // the head less the tail would be 6 and 40 with a wrap-around
                due("snake(MIN, MAX - 5)", race.snake(Integer.MIN_VALUE, Integer.MAX_VALUE - 5), BAD_VALUE);
                due("snake(MIN + 9, MAX - 30)", race.snake(Integer.MIN_VALUE + 9, Integer.MAX_VALUE - 30), BAD_VALUE);
            });
        document.sentence("NOT_POSSIBLE if there is a head on this square", () -> {
            SnakeTrades race = new SnakeTrades();
            race.snake(30, 20);
            due("snake(30, 20)", race.snake(30, 20), NOT_POSSIBLE);
            due("snake(30, 10)", race.snake(30, 10), NOT_POSSIBLE);
            due("snake(31, 20)", race.snake(31, 20), 1);
            due("snake(20, 14)", race.snake(20, 14), 2);
            due("snake(36, 30)", race.snake(36, 30), 3);
            SnakeTrades asleep = new SnakeTrades();
            asleep.snake(30, 20);
            asleep.charm(0, 9);
            due("snake(30, 20), a sleeping snake is there", asleep.snake(30, 20), NOT_POSSIBLE);
        });
        document.sentence("TOO_MANY if there are 10 snakes", () -> {
            SnakeTrades race = new SnakeTrades();
            for (int number = 0; number < 10; number++) {
                due("snake(" + (10 + number) + ", 2)", race.snake(10 + number, 2), number);
            }
            due("snake(20, 2) as the eleventh", race.snake(20, 2), TOO_MANY);
            due("count(3)", race.count(3), 10);
            race.undo();
            due("snake(20, 2) as the tenth", race.snake(20, 2), 9);
        });
    }

    private void charm() {
        document.section("Promise 3");
        document.sentence("it sleeps for some more turns, or, with the largest number, it goes away.", () -> {
            SnakeTrades race = standing(6, 6, 6, 6);
            race.snake(7, 1);
            race.charm(0, 9);
            due("count(3)", race.count(3), 1);
            race.turn(1);
            due("player(0, 2), it sleeps", race.player(0, 2), 0);
            race.undo();
            race.charm(0, 10);
            race.turn(1);
            due("player(0, 2), it is gone", race.player(0, 2), 0);
            due("count(3)", race.count(3), 0);
        });
        document.sentence("- `turns`: 1 to 10: with 10 the snake is gone, otherwise its sleep becomes so much greater",
            () -> {
                SnakeTrades race = new SnakeTrades();
                race.snake(9, 2);
                due("charm(0, 1)", race.charm(0, 1), 0);
                due("snakeOf(0, 2)", race.snakeOf(0, 2), 1);
                due("charm(0, 9)", race.charm(0, 9), 1);
                due("snakeOf(0, 2)", race.snakeOf(0, 2), 10);
                due("count(3)", race.count(3), 1);
                due("charm(0, 10)", race.charm(0, 10), 10);
                due("count(3)", race.count(3), 0);
                due("square(9, 1)", race.square(9, 1), NONE);
            });
        document.sentence("Returns its sleep before", () -> {
            SnakeTrades race = new SnakeTrades();
            race.snake(9, 2);
            int[] sleeps = {0, 9, 10, 14};
            int[] turns = {9, 1, 4, 10};
            for (int i = 0; i < turns.length; i++) {
                due("charm(0, " + turns[i] + ")", race.charm(0, turns[i]), sleeps[i]);
            }
            race.snake(9, 2);
            due("charm(0, 10) of a new snake", race.charm(0, 10), 0);
        });
        document.sentence("NO_SUCH if there is no such snake", () -> {
            SnakeTrades race = new SnakeTrades();
            due("charm(0, 1), none", race.charm(0, 1), NO_SUCH);
            for (int number = 0; number < 10; number++) {
                race.snake(20 + number, 10);
            }
            due("charm(9, 1)", race.charm(9, 1), 0);
            wrongDue("charm(?, 1)", 0, 9, snake -> race.charm(snake, 1), NO_SUCH);
            due("charm(4, 10)", race.charm(4, 10), 0);
            due("charm(4, 10), gone", race.charm(4, 10), NO_SUCH);
            due("charm(5, 1)", race.charm(5, 1), 0);
        });
        document.sentence("BAD_VALUE if turns is out of range", () -> {
            SnakeTrades race = new SnakeTrades();
            race.snake(9, 2);
            wrongDue("charm(0, ?)", 1, 10, turns -> race.charm(0, turns), BAD_VALUE);
            due("snakeOf(0, 2)", race.snakeOf(0, 2), 0);
        });
    }

    // ---- 4 and 5: turns

    private void turn() {
        document.section("Promise 4");
        document.sentence("- `dice`: 1 to 6: the throw", () -> {
            for (int dice = 1; dice <= 6; dice++) {
                due("turn(" + dice + ")", new SnakeTrades().turn(dice), dice);
            }
        });
        document.sentence("BAD_VALUE if dice is out of range", () -> {
            SnakeTrades race = new SnakeTrades();
            wrongDue("turn(?)", 1, 6, race::turn, BAD_VALUE);
            due("count(0)", race.count(0), 0);
        });
        document.sentence("NOT_POSSIBLE if the race is over", () -> {
            SnakeTrades race = alone(54);
            due("turn(6), the last one", race.turn(6), 60);
            for (int dice = 1; dice <= 6; dice++) {
                due("turn(" + dice + ")", race.turn(dice), NOT_POSSIBLE);
            }
            race.undo();
            due("turn(6) after undo", race.turn(6), 60);
        });
    }

    /** The x from which this x is drawn. */
    private static int before(int x) {
        int found = 0;
        while (drawn(found) != x) {
            found++;
        }
        return found;
    }

    private void playDraws() {
        document.section("Promise 5");
        document.sentence("ahead of each turn, x becomes (25173 * x + 13849) modulo 65536", () -> {
            for (int seed : new int[] {0, 1, 2, 3, 32767, 32768, 65534, 65535}) {
                SnakeTrades race = new SnakeTrades();
                race.play(seed, 4);
                int x = seed;
                for (int player = 0; player < 4; player++) {
                    x = drawn(x);
                    due("player(" + player + ", 0) after play(" + seed + ", 4)", race.player(player, 0), 1 + x / 10923);
                }
            }
        });
        document.sentence("and the throw is 1 + x / 10923 (rounded down)", () -> {
            int[] lasts = {10922, 21845, 32768, 43691, 54614, 65535};
            int first = 0;
            for (int dice = 1; dice <= 6; dice++) {
                due("the throw of x " + first, throwOf(first), dice);
                due("the throw of x " + lasts[dice - 1], throwOf(lasts[dice - 1]), dice);
                first = lasts[dice - 1] + 1;
            }
        });
    }

    private static int throwOf(int x) {
        SnakeTrades race = new SnakeTrades();
        race.play(before(x), 1);
        return race.player(0, 0);
    }

    private void playEnds() {
        document.section("Promise 5");
        document.sentence("It ends early when the race is over.", () -> {
            SnakeTrades last = alone(59);
            due("play of a 1", last.play(before(0), 50), 1);
            due("count(1)", last.count(1), NONE);
            due("count(0)", last.count(0), 40 + 3 + 1);
            SnakeTrades second = alone(59);
            int x = 0;
            while (drawn(x) / 10923 != 1 || drawn(drawn(x)) / 10923 != 0) {
                x++;
            }
            due("play of a 2 and a 1, one turn", second.play(x, 1), 1);
            due("count(1), not over", second.count(1), 3);
            second.undo();
            due("play of a 2 and a 1, two turns", second.play(x, 2), 2);
            second.undo();
            due("play of a 2 and a 1, up to three turns", second.play(x, 3), 2);
        });
        document.sentence("Returns how many turns are made", () -> {
            for (int many : new int[] {1, 2, 49, 50}) {
                SnakeTrades race = steep();
                due("play(7, " + many + ")", race.play(7, many), many);
                due("count(0)", race.count(0), many);
            }
        });
    }

    private void playCodes() {
        document.section("Promise 5");
        document.sentence("- `x`: 0 to 65535", () -> {
            due("play(0, 1)", new SnakeTrades().play(0, 1), 1);
            due("play(65535, 1)", new SnakeTrades().play(65535, 1), 1);
        });
        document.sentence("- `many`: 1 to 50", () -> {
            due("play(5, 1)", new SnakeTrades().play(5, 1), 1);
            due("play(5, 50)", new SnakeTrades().play(5, 50), 50);
        });
        document.sentence("BAD_VALUE if an argument is out of range", () -> {
            SnakeTrades race = new SnakeTrades();
            wrongDue("play(?, 1)", 0, 65535, x -> race.play(x, 1), BAD_VALUE);
            wrongDue("play(5, ?)", 1, 50, many -> race.play(5, many), BAD_VALUE);
            due("play(-1, 0)", race.play(-1, 0), BAD_VALUE);
            due("count(0)", race.count(0), 0);
        });
        document.sentence("NOT_POSSIBLE if the race is over", () -> {
            due("play(0, 1)", over().play(0, 1), NOT_POSSIBLE);
            due("play(65535, 50)", over().play(65535, 50), NOT_POSSIBLE);
        });
    }

    // ---- 6 and 7: trades, settings

    /** The player 0 holds two bites, the own one of the size 6 and one of the player 1 of the size 7. */
    private static SnakeTrades withTwoBites() {
        SnakeTrades race = standing(7, 7, 7, 7);
        race.snake(13, 7);
        race.snake(12, 5);
        throwAll(race, "65");
        race.sell(1, 0, 0, 5);
        return race;
    }

    private void sellRanges() {
        document.section("Promise 6");
        document.sentence("- `seller`: 0 to 3", () -> {
            SnakeTrades first = withBite();
            due("sell(0, 0, 3, 3)", first.sell(0, 0, 3, 3), 1013);
            due("sell(3, 0, 1, 3)", first.sell(3, 0, 1, 3), 1013);
            wrongDue("sell(?, 0, 2, 3)", 0, 3, seller -> first.sell(seller, 0, 2, 3), NO_SUCH);
        });
        document.sentence("- `bite`: index of a bite of the seller, from 0", () -> {
            SnakeTrades race = withTwoBites();
            wrongDue("sell(0, ?, 2, 9)", 0, 1, bite -> race.sell(0, bite, 2, 9), NO_SUCH);
            due("sell(0, 1, 2, 3)", race.sell(0, 1, 2, 3), 1013);
            due("sell(0, 1, 3, 3) of one bite", race.sell(0, 1, 3, 3), NO_SUCH);
            due("sell(0, 0, 3, 2)", race.sell(0, 0, 3, 2), 1012);
            due("sell(0, 0, 3, 2) of none", race.sell(0, 0, 3, 2), NO_SUCH);
        });
        document.sentence("- `buyer`: 0 to 3", () -> {
            SnakeTrades race = withBite();
            wrongDue("sell(0, 0, ?, 3)", 0, 3, buyer -> race.sell(0, 0, buyer, 3), NO_SUCH);
            due("sell(0, 0, 3, 3)", race.sell(0, 0, 3, 3), 1013);
            SnakeTrades other = standing(7, 7, 7, 7);
            other.turn(1);
            other.snake(12, 6);
            other.turn(5);
            due("sell(1, 0, 0, 2)", other.sell(1, 0, 0, 2), 1012);
        });
        document.sentence("- `coins`: 0 to 99", () -> {
            SnakeTrades race = withBite();
            due("sell(0, 0, 1, 0)", race.sell(0, 0, 1, 0), -15);
            due("sell(0, 0, 1, 99)", race.sell(0, 0, 1, 99), -14);
            race.set(LIMIT, 50);
            race.sell(0, 0, 1, 60);
            due("sell(1, 0, 2, 99) by one who has as many", race.sell(1, 0, 2, 99), 1109);
        });
    }

    private void sellAnswers() {
        document.section("Promise 6");
        document.sentence("Returns the coins that the buyer has then, plus 1000", () -> {
            SnakeTrades race = withBite();
            due("sell(0, 0, 1, 30)", race.sell(0, 0, 1, 30), 1040);
            throwAll(race, "166");
            beBitten(race, 6);
            race.turn(1);
            beBitten(race, 6);
            due("sell(2, 0, 0, 4) to one in debt", race.sell(2, 0, 0, 4), 984);
        });
        document.sentence("NO_SUCH if there is no such player or bite", () -> {
            SnakeTrades race = withBite();
            due("sell(1, 0, 0, 3) of none", race.sell(1, 0, 0, 3), NO_SUCH);
            due("sell(0, 1, 1, 3)", race.sell(0, 1, 1, 3), NO_SUCH);
            due("sell(-1, 0, 1, 3)", race.sell(-1, 0, 1, 3), NO_SUCH);
            due("sell(0, 0, 4, 3)", race.sell(0, 0, 4, 3), NO_SUCH);
        });
        document.sentence("BAD_VALUE if coins is out of range, or both players are the same", () -> {
            SnakeTrades race = withBite();
            wrongDue("sell(0, 0, 1, ?)", 0, 99, coins -> race.sell(0, 0, 1, coins), BAD_VALUE);
            for (int coins : new int[] {0, 3, 99}) {
                due("sell(0, 0, 0, " + coins + ")", race.sell(0, 0, 0, coins), BAD_VALUE);
            }
            due("count(6)", race.count(6), 0);
        });
        document.sentence("-10 minus the reason (an error code) if it is refused", () -> {
            SnakeTrades race = withBite();
            race.sell(0, 0, 1, 3);
            due("sell, held already", race.sell(1, 0, 0, 3), -13);
            due("sell, too many coins", race.sell(1, 0, 2, 34), -14);
            due("sell, too few coins", race.sell(1, 0, 2, 2), -15);
            race.set(TRADES, 1);
            due("sell, sold too often", race.sell(1, 0, 2, 3), -12);
            SnakeTrades home = withOneHome();
            home.snake(55, 49);
            home.turn(1);
            due("sell, not in the race", home.sell(1, 0, 0, 2), -11);
            due("count(6)", race.count(6), 1);
        });
    }

    private void set() {
        document.section("Promise 7");
        document.sentence("- `setting`: SLEEP to TRADES", () -> {
            int[] first = {2, 20, 2};
            for (int setting = 0; setting < 3; setting++) {
                SnakeTrades race = new SnakeTrades();
                race.set(setting, 3);
                for (int other = 0; other < 3; other++) {
                    due("count(" + (8 + other) + ") after set(" + setting + ", 3)", race.count(8 + other),
                        other == setting ? 3 : first[other]);
                }
            }
        });
        document.sentence("Returns the previous value", () -> {
            SnakeTrades race = new SnakeTrades();
            int[] values = {20, 0, 50, 50, 1};
            for (int i = 1; i < values.length; i++) {
                due("set(LIMIT, " + values[i] + ")", race.set(LIMIT, values[i]), values[i - 1]);
            }
            due("set(SLEEP, 0)", race.set(SLEEP, 0), 2);
            due("set(SLEEP, 9)", race.set(SLEEP, 9), 0);
            due("set(TRADES, 1)", race.set(TRADES, 1), 2);
            due("set(TRADES, 3)", race.set(TRADES, 3), 1);
        });
        document.sentence("NO_SUCH if there is no such setting", () -> {
            SnakeTrades race = new SnakeTrades();
            wrongDue("set(?, 2)", 0, 2, setting -> race.set(setting, 2), NO_SUCH);
            due("count(11)", race.count(11), 0);
        });
        document.sentence("BAD_VALUE if value is out of its range", () -> {
            SnakeTrades race = new SnakeTrades();
            wrongDue("set(SLEEP, ?)", 0, 9, value -> race.set(SLEEP, value), BAD_VALUE);
            wrongDue("set(LIMIT, ?)", 0, 50, value -> race.set(LIMIT, value), BAD_VALUE);
            wrongDue("set(TRADES, ?)", 1, 3, value -> race.set(TRADES, value), BAD_VALUE);
            due("count(11)", race.count(11), 0);
        });
    }

    // ---- 8 to 11: text

    private void append() {
        document.section("Promise 8");
        document.sentence("- `character`: 32 to 126", () -> {
            due("append(32)", new SnakeTrades().append(32), 1);
            due("append(126)", new SnakeTrades().append(126), 1);
        });
        document.sentence("BAD_VALUE if character is out of range", () -> {
            SnakeTrades race = new SnakeTrades();
            wrongDue("append(?)", 32, 126, race::append, BAD_VALUE);
            // the sign 6, with a wrap-around of its number
            due("append('6' + 256)", race.append('6' + 256), BAD_VALUE);
            due("append('6' + 65536)", race.append('6' + 65536), BAD_VALUE);
            due("append('6' - 65536)", race.append('6' - 65536), BAD_VALUE);
            due("count(12)", race.count(12), 0);
        });
        document.sentence("TOO_MANY if the text has 60 characters", () -> {
            SnakeTrades race = new SnakeTrades();
            for (int length = 1; length <= 60; length++) {
                due("append(49)", race.append('1'), length);
            }
            due("append(49) to 60 characters", race.append('1'), TOO_MANY);
            due("append(32) to 60 characters", race.append(' '), TOO_MANY);
            due("fault()", race.fault(), NONE);
            due("run()", race.run(), 60);
        });
    }

    private void clearTextAndFault() {
        document.section("Promise 9");
        document.sentence("Empties the text.", () -> {
            SnakeTrades race = new SnakeTrades();
            write(race, "66x");
            race.clearText();
            due("count(12)", race.count(12), 0);
            due("fault()", race.fault(), 0);
            race.append('6');
            due("run() of what is written then", race.run(), 1);
        });
        document.sentence("Returns the length that the text had.", () -> {
            SnakeTrades race = new SnakeTrades();
            due("clearText() of the empty text", race.clearText(), 0);
            write(race, "x");
            due("clearText() of one character", race.clearText(), 1);
            write(race, "6".repeat(60));
            due("clearText() of the full text", race.clearText(), 60);
            due("clearText() once more", race.clearText(), 0);
        });
        document.section("Promise 10");
        document.sentence("Returns the fault; NONE if the text is a complete script.", () -> {
            SnakeTrades race = new SnakeTrades();
            String text = "6(0a>1$10)5";
            int[] faults = {NONE, 2, 3, 4, 5, 6, 7, 8, 9, NONE, NONE};
            due("fault() of the empty text", race.fault(), 0);
            for (int i = 0; i < text.length(); i++) {
                race.append(text.charAt(i));
                due("fault() of " + text.substring(0, i + 1), race.fault(), faults[i]);
            }
            race.append(')');
            due("fault() of " + text + ")", race.fault(), 11);
            race.append('1');
            due("fault() of " + text + ")1", race.fault(), 11);
        });
    }

    private static int ranOf(SnakeTrades race, String text) {
        write(race, text);
        return race.run();
    }

    private void run() {
        document.section("Promise 11");
        document.sentence("up to the first one for which the method would return an error code", () -> {
            due("run(), no such bite", ranOf(withBite(), "1(0b>1$3)1"), 1);
            due("run(), no bite", ranOf(withBite(), "1(2a>1$3)1"), 1);
            due("run(), to the same", ranOf(withBite(), "1(0a>0$3)1"), 1);
            due("run(), too few coins", ranOf(withBite(), "1(0a>1$2)1"), 1);
            due("run(), just enough coins", ranOf(withBite(), "1(0a>1$3)1"), 3);
            due("run(), the last coins", ranOf(withBite(), "1(0a>1$30)1"), 3);
            due("run(), too many coins", ranOf(withBite(), "1(0a>1$31)1"), 1);
            due("run(), held already", ranOf(withBite(), "1(0a>1$3)(1a>0$3)1"), 2);
            due("run(), sold too often", ranOf(withBite(), "(0a>1$3)(1a>2$3)(2a>3$3)1"), 2);
            due("run(), the race is over", ranOf(alone(54), "61"), 1);
            SnakeTrades race = withBite();
            due("run(), a trade ahead of the turn in which it hurts", ranOf(race, "111(0a>3$3)1"), 5);
            due("player(0, 0), not hurt", race.player(0, 0), 10);
        });
        document.sentence("The text does not change.", () -> {
            SnakeTrades race = withBite();
            due("run()", ranOf(race, "1(0b>1$3)1"), 1);
            due("count(12)", race.count(12), 10);
            due("run() once more", race.run(), 1);
            due("count(0)", race.count(0), 7);
        });
        document.sentence("This is one action, even if no order is carried out.", () -> {
            SnakeTrades race = new SnakeTrades();
            due("run() of three orders", ranOf(race, "123"), 3);
            due("count(11)", race.count(11), 1);
            due("run() of none", ranOf(race, "(0a>1$3)"), 0);
            due("count(11)", race.count(11), 2);
            due("undo()", race.undo(), 1);
            due("count(0)", race.count(0), 3);
            due("undo()", race.undo(), 0);
            due("count(0)", race.count(0), 0);
        });
    }

    private void runAnswers() {
        document.section("Promise 11");
        document.sentence("Returns the number of orders that are carried out", () -> {
            due("run() of 60 turns", ranOf(new SnakeTrades(), "1".repeat(60)), 60);
            due("run() of one turn", ranOf(new SnakeTrades(), "1"), 1);
            due("run() of one sale", ranOf(withBite(), "(0a>1$3)"), 1);
            due("run() of none", ranOf(new SnakeTrades(), "(0a>1$3)111"), 0);
        });
        document.sentence("-100 minus the fault (an error code) if the text is not a complete script.", () -> {
            due("run() of the empty text", ranOf(new SnakeTrades(), ""), -100);
            due("run() of x", ranOf(new SnakeTrades(), "x"), -100);
            due("run() of 6x", ranOf(new SnakeTrades(), "6x"), -101);
            due("run() of (", ranOf(new SnakeTrades(), "("), -101);
            SnakeTrades race = new SnakeTrades();
            due("run() of 59 turns and a 7", ranOf(race, "1".repeat(59) + "7"), -159);
            due("run() of 59 turns and a (", ranOf(race, "1".repeat(59) + "("), -160);
            due("count(0)", race.count(0), 0);
            due("count(11)", race.count(11), 0);
        });
    }

    // ---- 12 to 14: history and snapshot

    private void undo() {
        document.section("Promise 12");
        document.sentence("Restores the latest state of the history and removes it from the history. The text and the"
            + " snapshot do not change.", () -> {
                SnakeTrades race = new SnakeTrades();
                race.turn(1);
                race.turn(2);
                race.save();
                write(race, "3");
                race.turn(3);
                race.undo();
                due("count(0)", race.count(0), 2);
                race.undo();
                due("count(0)", race.count(0), 1);
                due("player(1, 0)", race.player(1, 0), 0);
                due("run() of the text", race.run(), 1);
                due("restore()", race.restore(), 2);
                due("player(1, 0)", race.player(1, 0), 2);
            });
        document.sentence("Returns the number of states that are left in the history; NONE if the history is empty.",
            () -> {
                SnakeTrades race = new SnakeTrades();
                due("undo() at first", race.undo(), NONE);
                race.turn(1);
                due("undo() of one", race.undo(), 0);
                due("undo() of none", race.undo(), NONE);
                due("count(11)", race.count(11), 0);
                for (int action = 0; action < 6; action++) {
                    race.turn(1);
                }
                for (int left = 4; left >= 0; left--) {
                    due("undo()", race.undo(), left);
                }
                due("undo() of none, turns are made", race.undo(), NONE);
                due("count(0)", race.count(0), 1);
            });
    }

    private void save() {
        document.section("Promise 13");
        document.sentence("which replaces the previous snapshot. This is not an action.", () -> {
            SnakeTrades race = new SnakeTrades();
            race.save();
            race.turn(1);
            race.save();
            due("count(11)", race.count(11), 1);
            race.turn(2);
            due("restore()", race.restore(), 1);
            due("player(0, 0)", race.player(0, 0), 1);
            due("player(1, 0)", race.player(1, 0), 0);
        });
        document.sentence("Returns the number of turns so far.", () -> {
            SnakeTrades race = new SnakeTrades();
            due("save() at first", race.save(), 0);
            race.turn(1);
            due("save()", race.save(), 1);
            race.undo();
            due("save() after undo", race.save(), 0);
            due("save() when the race is over", over().save(), 40);
        });
    }

    private void restore() {
        document.section("Promise 14");
        document.sentence("The snapshot remains.", () -> {
            SnakeTrades race = withBite();
            race.save();
            String saved = told(race);
            for (int again = 0; again < 2; again++) {
                race.sell(0, 0, 1, 3);
                race.turn(1);
                race.charm(0, 10);
                due("restore()", race.restore(), 5);
                Checks.holds("the state of the snapshot", told(race).equals(saved));
            }
        });
        document.sentence("Returns the number of turns so far then", () -> {
            SnakeTrades race = new SnakeTrades();
            race.save();
            race.turn(1);
            due("restore() of the beginning", race.restore(), 0);
            race.turn(1);
            race.save();
            race.undo();
            due("restore() of a later state", race.restore(), 1);
        });
        document.sentence("NOT_POSSIBLE if there is no snapshot.", () -> {
            SnakeTrades race = new SnakeTrades();
            due("restore() at first", race.restore(), NOT_POSSIBLE);
            race.turn(1);
            due("restore() without a snapshot", race.restore(), NOT_POSSIBLE);
            due("count(11)", race.count(11), 1);
            race.save();
            due("restore()", race.restore(), 1);
        });
    }
}
