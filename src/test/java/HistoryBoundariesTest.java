import java.io.IOException;
import java.util.List;
import java.util.function.Consumer;
import java.util.function.ToIntFunction;

/** Each sentence on the text, the history and the errors that names a boundary case, with a test of its own. */
public final class HistoryBoundariesTest extends Races {
    private static final String[] HEADINGS = {"Text", "Actions and history", "Errors"};

    private final Document document;

    private HistoryBoundariesTest(Document document) {
        this.document = document;
    }

    public static void main(String[] arguments) throws IOException {
        checkAll(new Document());
        Checks.end("HistoryBoundariesTest");
    }

    static void checkAll(Document document) {
        HistoryBoundariesTest test = new HistoryBoundariesTest(document);
        test.room();
        test.signs();
        test.fault();
        test.actions();
        test.history();
        test.state();
        test.notOfTheState();
        test.errorsChangeNothing();
        test.queriesChangeNothing();
        test.errorsInOrder();
        test.codes();
        test.noResult();
        for (String heading : HEADINGS) {
            test.document.nothingLeftOut(heading);
        }
    }

    // ---- Text

    private void room() {
        document.section("Text");
        document.sentence("There is a text of at most 60 characters (empty at first).", () -> {
            SnakeTrades race = new SnakeTrades();
            due("count(12) at first", race.count(12), 0);
            for (int length = 1; length <= 60; length++) {
                due("append", race.append('1'), length);
            }
            due("append of the character 61", race.append('1'), TOO_MANY);
            due("count(12)", race.count(12), 60);
            due("clearText()", race.clearText(), 60);
            due("append once more", race.append('1'), 1);
        });
        document.sentence("script = order { order }", () -> {
            faultDue("", 0);
            faultDue("1", NONE);
            faultDue("(0a>1$5)", NONE);
            faultDue("1(0a>1$5)(1b>2$6)23", NONE);
            faultDue("1)", 1);
            faultDue("1,2", 1);
        });
    }

    private static void faultDue(String text, int fault) {
        SnakeTrades race = new SnakeTrades();
        write(race, text);
        due("fault() of " + text, race.fault(), fault);
        int answer = race.run();
        due("run() of " + text, answer > -100 ? NONE : -100 - answer, fault);
    }

    /** A script can go on with each of these signs, and with no other. */
    private static void signsDue(String before, String signs) {
        for (char sign = 32; sign < 127; sign++) {
            SnakeTrades race = new SnakeTrades();
            write(race, before + sign);
            boolean isFault = race.fault() == before.length();
            Checks.holds(before + sign + " begins a script, or not", isFault == (signs.indexOf(sign) < 0));
        }
    }

    private void signs() {
        document.section("Text");
        document.sentence("A throw is a digit from 1 to 6", () -> {
            signsDue("", "123456(");
            signsDue("3", "123456(");
            signsDue("(0a>1$9)", "123456(");
        });
        document.sentence("seller and buyer are digits from 0 to 3", () -> {
            signsDue("(", "0123");
            signsDue("(0a>", "0123");
            faultDue("(2a>2$9)", NONE);
        });
        document.sentence("a bite is a letter from a on (a for the first bite of the seller, up to h)", () -> {
            signsDue("(0", "abcdefgh");
            signsDue("(0a", ">");
            SnakeTrades race = standing(7, 7, 7, 7);
            race.snake(13, 7);
            race.snake(12, 5);
            throwAll(race, "65");
            race.sell(1, 0, 0, 5);
            write(race, "(0c>2$5)");
            due("run() of (0c>2$5) with two bites", race.run(), 0);
            write(race, "(0b>2$5)");
            due("run() of (0b>2$5)", race.run(), 1);
            due("bite(2, 0, 2)", race.bite(2, 0, 2), 1);
            write(race, "(0b>2$5)");
            due("run() of (0b>2$5) with one bite", race.run(), 0);
            write(race, "(0a>2$5)");
            due("run() of (0a>2$5)", race.run(), 1);
            due("bite(2, 1, 2)", race.bite(2, 1, 2), 0);
        });
        document.sentence("coins are \"$\" and a number from 0 to 99 without leading zeros", () -> {
            signsDue("(0a>1", "$");
            signsDue("(0a>1$", "0123456789");
            signsDue("(0a>1$0", ")");
            signsDue("(0a>1$1", ")0123456789");
            signsDue("(0a>1$99", ")");
            for (int coins = 0; coins < 100; coins++) {
                faultDue("(0a>1$" + coins + ")", NONE);
            }
            faultDue("(0a>1$100)", 8);
            faultDue("(0a>1$00)", 7);
            faultDue("(0a>1$01)", 7);
            faultDue("(0a>1$09)", 7);
            faultDue("(0a>1$)", 6);
        });
    }

    private void fault() {
        document.section("Text");
        String full = "1".repeat(59);
        document.sentence("The fault of the text is the index of the first character such that no script, of any"
            + " length, begins with the characters up to and including it.", () -> {
                faultDue("x", 0);
                faultDue("0000", 0);
                faultDue("(0a>1$5)7(9", 8);
                faultDue(full + "7", 59);
                faultDue(full + ")", 59);
                // a script of more characters than the text can have begins so
                faultDue(full + "(", 60);
                faultDue("1".repeat(53) + "(0a>1$9", 60);
            });
        document.sentence("If there is no such character, but the text is not a complete script (as the empty text),"
            + " the fault is the length of the text.", () -> {
                faultDue("", 0);
                String sale = "(3h>0$99)";
                for (int length = 1; length < sale.length(); length++) {
                    faultDue(sale.substring(0, length), length);
                    faultDue("66" + sale.substring(0, length), 2 + length);
                }
                faultDue(sale, NONE);
                faultDue(full + "1", NONE);
            });
    }

    // ---- Actions and history

    private void actions() {
        document.section("Actions and history");
        document.sentence("The actions are snake, charm, turn, play, sell, set, run and restore.", () -> {
            SnakeTrades race = new SnakeTrades();
            recordedDue("snake", race, race.snake(9, 2), 1);
            write(race, "63333");
            recordedDue("append", race, 5, 1);
            recordedDue("run", race, race.run(), 2);
            recordedDue("save", race, race.save(), 2);
            recordedDue("sell", race, race.sell(0, 0, 1, 3), 3);
            recordedDue("charm", race, race.charm(0, 1), 4);
            recordedDue("restore", race, race.restore(), 5);
            recordedDue("undo", race, race.undo(), 4);
            recordedDue("turn", race, race.turn(1), 5);
            race.undo();
            recordedDue("play", race, race.play(0, 2), 5);
            race.undo();
            recordedDue("set", race, race.set(SLEEP, 0), 5);
            race.undo();
            recordedDue("clearText", race, race.clearText(), 4);
            recordedDue("fault", race, race.fault() + 1, 4);
            recordedDue("dangers", race, race.dangers(0), 4);
            recordedDue("fewest", race, race.fewest(0, 1), 4);
            recordedDue("nextHome", race, race.nextHome(0), 4);
            recordedDue("cheapest", race, race.cheapest(1, 0), 4);
        });
        document.sentence("Each action that returns no error code records the state before it in the history, even if"
            + " the action changes nothing.", () -> {
                SnakeTrades race = new SnakeTrades();
                due("set to the same value", race.set(LIMIT, 20), 20);
                due("count(11)", race.count(11), 1);
                race.save();
                due("restore of the same state", race.restore(), 0);
                due("count(11)", race.count(11), 2);
                write(race, "(0a>1$9)");
                due("run without an order carried out", race.run(), 0);
                due("count(11)", race.count(11), 3);
                due("undo()", race.undo(), 2);
                due("undo()", race.undo(), 1);
                due("undo()", race.undo(), 0);
                SnakeTrades end = over();
                end.undo();
                end.turn(6);
                write(end, "6");
                due("run when the race is over", end.run(), 0);
                due("undo()", end.undo(), 4);
                due("count(1), still over", end.count(1), NONE);
                due("undo()", end.undo(), 3);
                due("count(1)", end.count(1), 3);
            });
    }

    private static void recordedDue(String call, SnakeTrades race, int answer, int states) {
        Checks.holds(call + " answers no error code: " + answer, answer >= 0);
        due("count(11) after " + call, race.count(11), states);
    }

    private void history() {
        document.section("Actions and history");
        document.sentence("The history holds at most 5 states; when a sixth state is recorded, the oldest one is"
            + " dropped.", () -> {
                for (int actions = 0; actions <= 12; actions++) {
                    SnakeTrades race = new SnakeTrades();
                    for (int action = 0; action < actions; action++) {
                        race.turn(1);
                        due("count(11)", race.count(11), Math.min(5, action + 1));
                    }
                    int held = Math.min(5, actions);
                    for (int left = held - 1; left >= 0; left--) {
                        due("undo() of " + actions, race.undo(), left);
                        due("count(0)", race.count(0), actions - held + left);
                    }
                    due("undo() of " + actions + ", once more", race.undo(), NONE);
                    due("count(0)", race.count(0), actions - held);
                }
            });
    }

    private static final List<Consumer<SnakeTrades>> ACTIONS = List.of(
        race -> race.snake(49, 40), race -> race.charm(0, 9), race -> race.charm(9, 10), race -> race.turn(1),
        race -> race.play(0, 50), race -> race.sell(1, 0, 3, 6), race -> race.set(SLEEP, 0),
        race -> race.set(LIMIT, 50), race -> race.set(TRADES, 3), SnakeTrades::run, SnakeTrades::restore);

    private void state() {
        document.section("Actions and history");
        document.sentence("The state consists of the players with their bites, the snakes, the settings, and what is"
            + " counted.", () -> {
                for (Consumer<SnakeTrades> action : ACTIONS) {
                    SnakeTrades race = crowded();
                    race.save();
                    race.charm(7, 10);
                    write(race, "123(1a>3$9)");
                    String before = told(race);
                    action.accept(race);
                    Checks.holds("an action changes the state", !told(race).equals(before));
                    race.undo();
                    Checks.holds("all is as before", told(race).equals(before));
                }
            });
    }

    private void notOfTheState() {
        document.section("Actions and history");
        document.sentence("The text, the snapshot and the history itself are not part of the state.", () -> {
            SnakeTrades race = new SnakeTrades();
            race.turn(1);
            race.save();
            write(race, "12");
            race.turn(2);
            race.append('3');
            due("undo()", race.undo(), 1);
            due("count(12) after undo", race.count(12), 3);
            race.turn(5);
            race.turn(5);
            race.append('4');
            due("restore()", race.restore(), 1);
            due("count(12) after restore", race.count(12), 4);
            due("count(11) after restore", race.count(11), 4);
            race.undo();
            race.undo();
            race.undo();
            race.undo();
            due("restore() of what was saved later", race.restore(), 1);
            due("player(0, 0)", race.player(0, 0), 1);
            due("fault()", race.fault(), NONE);
        });
    }

    // ---- Errors

    /**
     * The player 0 is home; there are 10 snakes; the player 1 holds a bite that was sold once, the player 3 one that
     * was sold twice; the text is full and ends within a sale.
     */
    private static SnakeTrades crowded() {
        SnakeTrades race = withOneHome();
        for (int head = 50; head < 60; head++) {
            race.snake(head, head - 6);
        }
        throwAll(race, "123");
        race.sell(1, 0, 2, 4);
        race.sell(2, 1, 3, 4);
        race.sell(2, 0, 1, 2);
        write(race, "1".repeat(59) + "(");
        return race;
    }

    private static final List<ToIntFunction<SnakeTrades>> REFUSED = List.of(
        race -> race.snake(6, 1), race -> race.snake(10, 5), race -> race.snake(60, 40), race -> race.snake(50, 44),
        race -> race.snake(20, 10), race -> race.charm(10, 1), race -> race.charm(-1, 1), race -> race.charm(0, 0),
        race -> race.charm(0, 11), race -> race.turn(0), race -> race.turn(7), race -> race.play(-1, 1),
        race -> race.play(65536, 1), race -> race.play(0, 0), race -> race.play(0, 51),
        race -> race.sell(4, 0, 1, 2), race -> race.sell(1, 1, 3, 4), race -> race.sell(1, 0, 4, 4),
        race -> race.sell(1, 0, 3, 100), race -> race.sell(1, 0, 1, 4), race -> race.sell(1, 0, 0, 2),
        race -> race.sell(3, 1, 0, 20), race -> race.sell(3, 1, 1, 9), race -> race.sell(1, 0, 2, 5),
        race -> race.sell(1, 0, 3, 99), race -> race.sell(1, 0, 3, 5), race -> race.set(-1, 1),
        race -> race.set(3, 1), race -> race.set(SLEEP, 10), race -> race.set(LIMIT, 51),
        race -> race.set(TRADES, 0), race -> race.append(31), race -> race.append('1'), SnakeTrades::run,
        SnakeTrades::restore, race -> race.player(4, 0), race -> race.player(0, 8), race -> race.bite(1, 1, 0),
        race -> race.bite(1, 0, 4), race -> race.snakeOf(10, 0), race -> race.snakeOf(0, 4),
        race -> race.square(61, 0), race -> race.square(0, 3), race -> race.count(13), race -> race.cheapest(1, 1),
        race -> race.dangers(0), race -> race.dangers(4), race -> race.fewest(4, 0), race -> race.fewest(0, 2),
        race -> race.nextHome(-1));

    private static final List<ToIntFunction<SnakeTrades>> REFUSED_AT_THE_END = List.of(
        race -> race.turn(1), race -> race.play(0, 1), race -> race.nextHome(0), race -> race.dangers(3),
        SnakeTrades::run, race -> race.sell(0, 0, 1, 2));

    private void errorsChangeNothing() {
        document.section("Errors");
        document.sentence("A method that returns an error code changes nothing.", () -> {
            unchangedBy(REFUSED, crowded(), crowded());
            unchangedBy(REFUSED_AT_THE_END, over(), over());
        });
    }

    private static void unchangedBy(List<ToIntFunction<SnakeTrades>> calls, SnakeTrades race, SnakeTrades twin) {
        for (int i = 0; i < calls.size(); i++) {
            Checks.holds("an error code for the call " + i, calls.get(i).applyAsInt(race) < 0);
        }
        Consumer<String> alike = what -> {
            Checks.holds("the state " + what, told(race).equals(told(twin)));
            for (int count = 11; count < 13; count++) {
                due("count(" + count + ") " + what, race.count(count), twin.count(count));
            }
        };
        due("fault()", race.fault(), twin.fault());
        alike.accept("after the calls");
        for (int left = 4; left >= 0; left--) {
            due("undo()", race.undo(), twin.undo());
        }
        alike.accept("after undo");
        due("restore()", race.restore(), twin.restore());
        due("clearText()", race.clearText(), twin.clearText());
    }

    private static final List<Consumer<SnakeTrades>> QUERIES = List.of(
        race -> race.bite(1, 0, 3), race -> race.square(60, 0), race -> race.square(59, 1),
        race -> race.square(50, 2), SnakeTrades::fault, race -> race.progress(1), race -> race.progress(4));

    private static final List<Consumer<SnakeTrades>> WHAT_WOULD_BE = List.of(
        race -> race.why(1, 0, 3, 6), race -> race.why(1, 0, 3, 0), race -> race.why(1, 0, 2, 5),
        race -> race.cheapest(1, 0), race -> race.cheapest(3, 0), race -> race.cheapest(3, 1),
        race -> race.dangers(1), race -> race.dangers(3), race -> race.fewest(1, 0), race -> race.fewest(1, 1),
        race -> race.fewest(3, 0), race -> race.fewest(3, 1), race -> race.nextHome(0), race -> race.nextHome(65535));

    private void queriesChangeNothing() {
        document.section("Errors");
        document.sentence("---- queries; they change nothing.", () -> {
            String first = told(crowded());
            Checks.holds("the state is told twice alike", told(crowded()).equals(first));
            unchangedBy(List.of(), afterAll(QUERIES, crowded()), crowded());
        });
        document.sentence("---- what would be; nothing is changed.", () -> {
            unchangedBy(List.of(), afterAll(WHAT_WOULD_BE, crowded()), crowded());
            SnakeTrades saved = crowded();
            saved.save();
            saved.undo();
            due("fewest(1, 0)", saved.fewest(1, 0), saved.fewest(1, 1));
            saved.nextHome(9);
            due("restore()", saved.restore(), 40);
            Checks.holds("the snapshot", told(saved).equals(told(crowded())));
        });
    }

    private static SnakeTrades afterAll(List<Consumer<SnakeTrades>> calls, SnakeTrades race) {
        calls.forEach(call -> call.accept(race));
        return race;
    }

    private void errorsInOrder() {
        document.section("Errors");
        document.sentence("The error codes of a method are listed in the order in which they are checked, and the first"
            + " one that applies is returned.", () -> {
                SnakeTrades race = crowded();
                due("snake, all three", race.snake(50, 45), BAD_VALUE);
                due("snake, the last two", race.snake(50, 40), NOT_POSSIBLE);
                due("snake, the last", race.snake(49, 40), TOO_MANY);
                due("charm", race.charm(10, 11), NO_SUCH);
                due("turn", over().turn(7), BAD_VALUE);
                due("play, x", over().play(-1, 1), BAD_VALUE);
                due("play, many", over().play(0, 51), BAD_VALUE);
                due("sell, all three", race.sell(4, 0, 4, 100), NO_SUCH);
                due("sell, no such bite of the same player", race.sell(1, 1, 1, 4), NO_SUCH);
                due("sell, too many coins to one at home", race.sell(1, 0, 0, 100), BAD_VALUE);
                due("sell, to the same", race.sell(1, 0, 1, 99), BAD_VALUE);
                due("set", race.set(3, -1), NO_SUCH);
                due("append", race.append(127), BAD_VALUE);
                due("player", race.player(4, 8), NO_SUCH);
                due("bite", race.bite(1, 1, 4), NO_SUCH);
                due("snakeOf", race.snakeOf(10, 4), NO_SUCH);
                due("why, the first two", race.why(4, 0, 4, 100), NO_SUCH);
                due("why, too many coins to one at home", race.why(1, 0, 0, 100), BAD_VALUE);
                due("fewest", race.fewest(4, 2), NO_SUCH);
                due("fewest, one at home", race.fewest(0, 2), BAD_VALUE);
                due("nextHome", over().nextHome(65536), BAD_VALUE);
            });
    }

    private void codes() {
        document.section("Errors");
        document.sentence("`NO_SUCH = -1`: There is no such player, snake, bite or setting.", () -> {
            SnakeTrades race = new SnakeTrades();
            due("dangers(4), no player", race.dangers(4), -1);
            due("charm(0, 1), no snake", race.charm(0, 1), -1);
            due("bite(0, 0, 0), no bite", race.bite(0, 0, 0), -1);
            due("set(3, 1), no setting", race.set(3, 1), -1);
        });
        document.sentence("`BAD_VALUE = -2`: Another argument is out of its range.", () -> {
            SnakeTrades race = new SnakeTrades();
            due("turn(7)", race.turn(7), -2);
            due("square(61, 0)", race.square(61, 0), -2);
            due("count(13)", race.count(13), -2);
        });
        document.sentence("`TOO_MANY = -3`: There is no more room.", () -> {
            SnakeTrades race = crowded();
            due("snake(20, 10)", race.snake(20, 10), -3);
            due("append(49)", race.append('1'), -3);
        });
        document.sentence("`NOT_POSSIBLE = -4`: The call is not possible in the present state.", () -> {
            SnakeTrades race = crowded();
            due("restore()", race.restore(), -4);
            due("dangers(0)", race.dangers(0), -4);
            due("snake(50, 40)", race.snake(50, 40), -4);
            due("turn(1)", over().turn(1), -4);
        });
        document.sentence("`SLEEP = 0, LIMIT = 1, TRADES = 2`: The settings.", () -> {
            int[] first = {2, 20, 2};
            for (int setting = 0; setting < 3; setting++) {
                due("set(" + setting + ", 1)", new SnakeTrades().set(setting, 1), first[setting]);
            }
            wrongDue("set(?, 1)", 0, 2, setting -> new SnakeTrades().set(setting, 1), NO_SUCH);
        });
    }

    private void noResult() {
        document.section("Errors");
        document.sentence("NONE is not an error code.", () -> {
            SnakeTrades race = new SnakeTrades();
            write(race, "6");
            due("fault()", race.fault(), NONE);
            due("run(), not an error code either", race.run(), 1);
        });
        document.sentence("`NONE = -5`: There is no result; this is not an error code.", () -> {
            SnakeTrades race = new SnakeTrades();
            due("undo()", race.undo(), -5);
            due("player(0, 5)", race.player(0, 5), -5);
            due("square(9, 1)", race.square(9, 1), -5);
            due("count(1)", over().count(1), -5);
        });
    }
}
