/** For each promise of the document: ordinary inputs, the edges that the document names, and wrong inputs. */
public final class PromisesTest extends Races {
    private static final int[] STRANGE = {-1, 1000, -1000, Integer.MIN_VALUE, Integer.MAX_VALUE};

    private PromisesTest() {
    }

    public static void main(String[] arguments) {
        promise1NewObject();
        promise2Snake();
        promise3Charm();
        promise4Turn();
        promise4Order();
        promise5Play();
        promise6Sell();
        promise6Order();
        promise7Set();
        promise7Effect();
        promise8Append();
        promise9ClearText();
        promise10Fault();
        promise11Run();
        promise12Undo();
        promise12And14Whole();
        promise13Save();
        promise14Restore();
        promise15Player();
        promise16Bite();
        promise17SnakeOf();
        promise18Square();
        promise19Count();
        promise20Why();
        promise21Cheapest();
        promise22Dangers();
        promise23Fewest();
        promise24NextHome();
        promise24Turns();
        promise25Progress();
        Checks.end("PromisesTest");
    }

    private static void promise1NewObject() {
        SnakeTrades race = new SnakeTrades();
        int[] counts = {0, 0, 4, 0, 0, 0, 0, 40, 2, 20, 2, 0, 0};
        for (int what = 0; what < counts.length; what++) {
            due("1: new, count(" + what + ")", race.count(what), counts[what]);
        }
        int[] ofPlayer = {0, 1010, 0, 0, 0, NONE, 0, 0};
        for (int player = 0; player < 4; player++) {
            for (int what = 0; what < ofPlayer.length; what++) {
                due("1: new, player(" + player + ", " + what + ")", race.player(player, what), ofPlayer[what]);
            }
        }
        due("1: new, square(0, 0)", race.square(0, 0), 15);
        due("1: new, undo()", race.undo(), NONE);
        due("1: new, restore()", race.restore(), NOT_POSSIBLE);
        due("1: new, fault()", race.fault(), 0);
        due("1: new, snakeOf(0, 0)", race.snakeOf(0, 0), NO_SUCH);
        due("1: another object", new SnakeTrades().snake(9, 2), 0);
        due("1: is apart", race.count(3), 0);
    }

    private static void promise2Snake() {
        SnakeTrades race = new SnakeTrades();
        due("2: head 6", race.snake(6, 1), BAD_VALUE);
        due("2: head 60", race.snake(60, 50), BAD_VALUE);
        due("2: tail 0", race.snake(10, 0), BAD_VALUE);
        due("2: tail 54", race.snake(59, 54), BAD_VALUE);
        due("2: size 5", race.snake(20, 15), BAD_VALUE);
        due("2: size 41", race.snake(50, 9), BAD_VALUE);
        due("2: tail above head", race.snake(20, 30), BAD_VALUE);
        for (int strange : STRANGE) {
            due("2: head " + strange, race.snake(strange, 2), BAD_VALUE);
            due("2: tail " + strange, race.snake(20, strange), BAD_VALUE);
        }
        due("2: an error records nothing", race.count(11), 0);
        due("2: least head", race.snake(7, 1), 0);
        due("2: highest", race.snake(59, 53), 1);
        due("2: size 40", race.snake(41, 1), 2);
        due("2: it is recorded", race.count(11), 3);
        due("2: head there", race.snake(41, 20), NOT_POSSIBLE);
        due("2: BAD_VALUE ahead of NOT_POSSIBLE", race.snake(41, 40), BAD_VALUE);
        due("2: a head on a tail's square", race.snake(53, 20), 3);
        for (int i = 4; i < 10; i++) {
            due("2: snake " + i, race.snake(20 + i, 5), i);
        }
        due("2: room", race.snake(40, 5), TOO_MANY);
        due("2: NOT_POSSIBLE ahead of TOO_MANY", race.snake(7, 1), NOT_POSSIBLE);
        race.charm(8, 10);
        race.charm(3, 10);
        due("2: least free number", race.snake(40, 5), 3);
        due("2: next free number", race.snake(53, 20), 8);
        due("2: head", race.snakeOf(3, 0), 40);
        due("2: tail", race.snakeOf(3, 1), 5);
        due("2: sleep", race.snakeOf(3, 2), 0);
    }

    private static void promise3Charm() {
        SnakeTrades race = new SnakeTrades();
        race.snake(7, 1);
        due("3: no such", race.charm(1, 1), NO_SUCH);
        due("3: NO_SUCH ahead of BAD_VALUE", race.charm(1, 0), NO_SUCH);
        due("3: 0 turns", race.charm(0, 0), BAD_VALUE);
        due("3: 11 turns", race.charm(0, 11), BAD_VALUE);
        for (int strange : STRANGE) {
            due("3: snake " + strange, race.charm(strange, 1), NO_SUCH);
            due("3: turns " + strange, race.charm(0, strange), BAD_VALUE);
        }
        due("3: snake 10", race.charm(10, 1), NO_SUCH);
        due("3: nothing is recorded", race.count(11), 1);
        due("3: first", race.charm(0, 9), 0);
        due("3: greater", race.charm(0, 1), 9);
        due("3: sum", race.snakeOf(0, 2), 10);
        due("3: recorded", race.count(11), 3);
        due("3: gone", race.charm(0, 10), 10);
        due("3: no such any more", race.snakeOf(0, 0), NO_SUCH);
        due("3: its square is free", race.square(7, 1), NONE);
        due("3: no tail", race.square(1, 2), 0);
        due("3: undone", race.undo(), 3);
        due("3: there again", race.snakeOf(0, 2), 10);
    }

    private static void promise4Turn() {
        SnakeTrades race = new SnakeTrades();
        due("4: 0", race.turn(0), BAD_VALUE);
        due("4: 7", race.turn(7), BAD_VALUE);
        for (int strange : STRANGE) {
            due("4: " + strange, race.turn(strange), BAD_VALUE);
        }
        due("4: no turn is made", race.count(0), 0);
        due("4: first", race.turn(6), 6);
        due("4: whose turn", race.count(1), 1);
        due("4: one turn", race.count(0), 1);
        due("4: recorded", race.count(11), 1);
        SnakeTrades late = withOneHome();
        due("4: one home", late.count(2), 3);
        due("4: place", late.player(0, 5), 1);
        due("4: no place yet", late.player(1, 5), NONE);
        throwAll(late, "466");
        due("4: the player 0 is passed over", late.count(1), 1);
        due("4: from 58 with 3", late.turn(3), 59);
        due("4: alone", late.count(1), 1);
        due("4: from 59 with 6 back", late.turn(6), 55);
        due("4: again", late.count(1), 1);
        due("4: home", late.turn(5), 60);
        due("4: last place", late.player(1, 5), 4);
        due("4: nobody's turn", late.count(1), NONE);
        due("4: over", late.turn(1), NOT_POSSIBLE);
        due("4: BAD_VALUE ahead", late.turn(0), BAD_VALUE);
        due("4: over, turns", late.count(0), 37 + 3 + 3);
    }

    private static void promise4Order() {
        SnakeTrades race = withBite();
        due("4: bite", race.player(0, 2), 1);
        due("4: SLEEP after four turns are gone by", race.snakeOf(0, 2), 2);
        due("4: the piece stands on the head", race.player(0, 0), 9);
        throwAll(race, "113");
        due("4: sleep is over", race.snakeOf(0, 2), 0);
        due("4: the bite hurts first", race.turn(1), 3);
        due("4: it is gone", race.player(0, 2), 0);
        due("4: moved back", race.player(0, 7), 7);
        due("4: on the head", race.player(1, 0), 4);
        due("4: next to the head", race.turn(5), 9);
        due("4: bitten", race.player(1, 6), 1);
        due("4: sleeps", race.snakeOf(0, 2), 2);
        due("4: a sleeping snake does not bite", race.turn(5), 9);
        due("4: not bitten", race.player(2, 2), 0);
        due("4: the sleep goes on", race.snakeOf(0, 2), 1);
        SnakeTrades pair = new SnakeTrades();
        pair.snake(7, 1);
        pair.charm(0, 5);
        throwAll(pair, "66661");
        due("4: asleep until this turn", pair.snakeOf(0, 2), 0);
        due("4: not bitten in its sleep", pair.player(0, 2), 0);
        pair.turn(1);
        due("4: a pair is not bitten", pair.player(1, 2), 0);
        due("4: the snake stays awake", pair.snakeOf(0, 2), 0);
        due("4: it has not bitten", pair.snakeOf(0, 3), 0);
        SnakeTrades low = new SnakeTrades();
        low.snake(47, 7);
        low.snake(12, 5);
        for (int i = 0; i < 7; i++) {
            throwAll(low, i == 1 ? "6543" : "6666");
        }
        due("4: not farther than 0", low.player(0, 7) > 0 ? 1 : 0, 1);
    }

    private static void promise5Play() {
        SnakeTrades race = new SnakeTrades();
        due("5: x -1", race.play(-1, 1), BAD_VALUE);
        due("5: x 65536", race.play(65536, 1), BAD_VALUE);
        due("5: many 0", race.play(0, 0), BAD_VALUE);
        due("5: many 51", race.play(0, 51), BAD_VALUE);
        for (int strange : STRANGE) {
            due("5: many " + strange, race.play(0, strange), BAD_VALUE);
        }
        due("5: nothing is recorded", race.count(11), 0);
        due("5: one turn", race.play(0, 1), 1);
        due("5: x 0 draws 13849, a 2", race.player(0, 0), 2);
        race.undo();
        due("5: the highest x", race.play(65535, 3), 3);
        int x = 65535;
        for (int player = 0; player < 3; player++) {
            x = (int) ((25173L * x + 13849) % 65536);
            due("5: throw of the player " + player, race.player(player, 0), 1 + x / 10923);
        }
        due("5: one state is recorded", race.count(11), 1);
        due("5: undone together", race.undo(), 0);
        due("5: at the beginning", race.count(0), 0);
        SnakeTrades late = withOneHome();
        int made = late.play(1, 50);
        int more = late.play(1, 50);
        due("5: ends early or is over", made < 50 ? NOT_POSSIBLE : more, more);
        SnakeTrades end = over();
        due("5: over", end.play(0, 1), NOT_POSSIBLE);
        due("5: BAD_VALUE ahead", end.play(-1, 1), BAD_VALUE);
        SnakeTrades last = withOneHome();
        throwAll(last, "66");
        last.turn(5);
        due("5: from 59, until a 1 is drawn", last.play(3, 50), turnsUntilHome(59, 3));
        due("5: and then it is over", last.count(1), NONE);
    }

    private static int turnsUntilHome(int square, int seed) {
        int at = square;
        long x = seed;
        for (int turns = 1; turns <= 50; turns++) {
            x = (25173 * x + 13849) % 65536;
            at += (int) (1 + x / 10923);
            at = at > 60 ? 120 - at : at;
            if (at == 60) {
                return turns;
            }
        }
        return 50;
    }

    private static void promise6Sell() {
        SnakeTrades race = withBite();
        due("6: seller 4", race.sell(4, 0, 1, 3), NO_SUCH);
        due("6: seller -1", race.sell(-1, 0, 1, 3), NO_SUCH);
        due("6: buyer 4", race.sell(0, 0, 4, 3), NO_SUCH);
        due("6: buyer -1", race.sell(0, 0, -1, 3), NO_SUCH);
        due("6: bite 1", race.sell(0, 1, 1, 3), NO_SUCH);
        due("6: bite -1", race.sell(0, -1, 1, 3), NO_SUCH);
        due("6: NO_SUCH ahead of BAD_VALUE", race.sell(0, 1, 0, 100), NO_SUCH);
        due("6: coins 100", race.sell(0, 0, 1, 100), BAD_VALUE);
        due("6: coins -1", race.sell(0, 0, 1, -1), BAD_VALUE);
        due("6: to the same", race.sell(0, 0, 0, 3), BAD_VALUE);
        for (int strange : STRANGE) {
            due("6: bite " + strange, race.sell(0, strange, 1, 3), NO_SUCH);
            due("6: coins " + strange, race.sell(0, 0, 1, strange), BAD_VALUE);
        }
        due("6: too few coins", race.sell(0, 0, 1, 2), -15);
        due("6: too many coins", race.sell(0, 0, 1, 31), -14);
        int states = race.count(11);
        due("6: no state is recorded", race.sell(0, 0, 1, 99), -14);
        due("6: as many states", race.count(11), states);
        race.undo();
        race.turn(3);
        due("6: down to the limit", race.sell(0, 0, 1, 30), 1040);
        due("6: a debt", race.player(0, 1), 980);
        due("6: recorded", race.count(11), 5);
        due("6: it is sold", race.player(0, 2), 0);
        due("6: it is held", race.player(1, 2), 1);
        due("6: sales", race.count(6), 1);
        due("6: bites so far", race.count(5), 1);
        due("6: the coins of all", race.count(7), 40);
        due("6: held already", race.sell(1, 0, 0, 30), -13);
        due("6: to a third", race.sell(1, 0, 2, 40), 1050);
        due("6: TRADES ahead of held already", race.sell(2, 0, 0, 3), -12);
        race.set(TRADES, 3);
        due("6: a third sale", race.sell(2, 0, 3, 70), 1080);
        due("6: at most three", race.sell(3, 0, 0, 3), -12);
        due("6: all have held it", race.bite(3, 0, 3), 15);
        SnakeTrades home = withOneHome();
        home.snake(59, 50);
        home.turn(5);
        due("6: not in the race", home.sell(1, 0, 0, 99), -11);
        due("6: 1 ahead of 2", home.why(1, 0, 0, 0), 1);
    }

    private static void promise6Order() {
        SnakeTrades race = new SnakeTrades();
        race.snake(7, 1);
        race.snake(8, 2);
        race.snake(9, 1);
        throwAll(race, "66661234");
        due("6: the last one is not bitten", race.player(3, 2), 0);
        due("6: asks for a third rounded up and 2 more", race.sell(0, 0, 2, 3), -15);
        due("6: exactly", race.sell(0, 0, 2, 4), 1014);
        due("6: the last bite of the buyer", race.bite(2, 1, 0), 6);
        due("6: the first bite of the buyer", race.bite(2, 0, 0), 8);
        due("6: with two bites", race.why(1, 0, 2, 5), 5);
        due("6: with two bites exactly", race.why(1, 0, 2, 6), 0);
        race.sell(1, 0, 2, 6);
        due("6: three bites", race.player(2, 3), 8 + 6 + 6);
        due("6: of the player 1", race.bite(2, 2, 2), 1);
        race.sell(2, 0, 3, 3);
        due("6: the others move up", race.bite(2, 0, 2), 0);
        due("6: the others move up, too", race.bite(2, 1, 2), 1);
        due("6: no third", race.bite(2, 2, 2), NO_SUCH);
        due("6: the bite sold", race.bite(3, 0, 2), 2);
    }

    private static void promise7Set() {
        SnakeTrades race = new SnakeTrades();
        int[] first = {2, 20, 2};
        int[] least = {0, 0, 1};
        int[] highest = {9, 50, 3};
        due("7: setting -1", race.set(-1, 1), NO_SUCH);
        due("7: setting 3", race.set(3, 1), NO_SUCH);
        due("7: NO_SUCH ahead", race.set(3, -1), NO_SUCH);
        for (int strange : STRANGE) {
            due("7: setting " + strange, race.set(strange, 1), NO_SUCH);
            due("7: value " + strange, race.set(LIMIT, strange), BAD_VALUE);
        }
        for (int setting = 0; setting < 3; setting++) {
            due("7: below " + setting, race.set(setting, least[setting] - 1), BAD_VALUE);
            due("7: above " + setting, race.set(setting, highest[setting] + 1), BAD_VALUE);
            due("7: least " + setting, race.set(setting, least[setting]), first[setting]);
            due("7: highest " + setting, race.set(setting, highest[setting]), least[setting]);
            due("7: told " + setting, race.count(8 + setting), highest[setting]);
        }
        due("7: recorded, five of six", race.count(11), 5);
        due("7: the same value", race.set(LIMIT, 50), 50);
        race.undo();
        race.undo();
        due("7: undone", race.count(10), 1);
    }

    private static void promise7Effect() {
        SnakeTrades race = new SnakeTrades();
        race.snake(7, 1);
        race.set(SLEEP, 0);
        throwAll(race, "66661");
        due("7: SLEEP 0", race.snakeOf(0, 2), 0);
        due("7: bitten all the same", race.player(0, 2), 1);
        race.set(LIMIT, 0);
        due("7: LIMIT 0, all coins", race.why(0, 0, 1, 10), 0);
        due("7: LIMIT 0, a debt", race.why(0, 0, 1, 11), 4);
        race.set(LIMIT, 50);
        due("7: LIMIT 50", race.why(0, 0, 1, 60), 0);
        due("7: LIMIT 50, one more", race.why(0, 0, 1, 61), 4);
        race.sell(0, 0, 1, 60);
        race.set(TRADES, 1);
        due("7: TRADES 1", race.why(1, 0, 2, 9), 2);
        race.set(TRADES, 2);
        due("7: TRADES 2", race.why(1, 0, 2, 9), 0);
        SnakeTrades long9 = new SnakeTrades();
        long9.snake(7, 1);
        long9.set(SLEEP, 9);
        throwAll(long9, "66661");
        due("7: SLEEP 9", long9.snakeOf(0, 2), 9);
    }

    private static void promise8Append() {
        SnakeTrades race = new SnakeTrades();
        due("8: 31", race.append(31), BAD_VALUE);
        due("8: 127", race.append(127), BAD_VALUE);
        for (int strange : STRANGE) {
            due("8: " + strange, race.append(strange), BAD_VALUE);
        }
        due("8: empty", race.count(12), 0);
        due("8: 32", race.append(32), 1);
        due("8: 126", race.append(126), 2);
        for (int length = 3; length <= 60; length++) {
            due("8: length", race.append('1'), length);
        }
        due("8: room", race.append('1'), TOO_MANY);
        due("8: BAD_VALUE ahead", race.append(0), BAD_VALUE);
        due("8: 60", race.count(12), 60);
        due("8: not an action", race.count(11), 0);
    }

    private static void promise9ClearText() {
        SnakeTrades race = new SnakeTrades();
        due("9: empty", race.clearText(), 0);
        write(race, "123");
        due("9: three", race.clearText(), 3);
        due("9: empty again", race.count(12), 0);
        due("9: empty again, fault", race.fault(), 0);
        due("9: not an action", race.count(11), 0);
    }

    private static void promise10Fault() {
        faultDue("", 0);
        faultDue("1", NONE);
        faultDue("6", NONE);
        faultDue("0", 0);
        faultDue("7", 0);
        faultDue("12345", NONE);
        faultDue("1 2", 1);
        faultDue("(", 1);
        faultDue(")", 0);
        faultDue("()", 1);
        faultDue("(3", 2);
        faultDue("(4", 1);
        faultDue("(0a", 3);
        faultDue("(0h", 3);
        faultDue("(0i", 2);
        faultDue("(0A", 2);
        faultDue("(0`", 2);
        faultDue("(0a>", 4);
        faultDue("(0a<", 3);
        faultDue("(0a>3", 5);
        faultDue("(0a>4", 4);
        faultDue("(0a>/", 4);
        faultDue("(0a>0$", 6);
        faultDue("(0a>05", 5);
        faultDue("(0a>0$)", 6);
        faultDue("(0a>0$0", 7);
        faultDue("(0a>0$0)", NONE);
        faultDue("(0a>0$00", 7);
        faultDue("(0a>0$9", 7);
        faultDue("(0a>0$99", 8);
        faultDue("(0a>0$99)", NONE);
        faultDue("(0a>0$100", 8);
        faultDue("(0a>0$9)(", 9);
        faultDue("(0a>0$9)((", 9);
        faultDue("(0a>0$9)4(3h>2$10)6", NONE);
        faultDue("(0a>0$9)4(3h>2$10)6x", 19);
        faultDue("(0a>0$9 )", 7);
        faultDue("x1", 0);
        StringBuilder full = new StringBuilder();
        for (int i = 0; i < 60; i++) {
            full.append('6');
        }
        faultDue(full.toString(), NONE);
        full.setCharAt(59, '(');
        faultDue(full.toString(), 60);
        full.setCharAt(59, '7');
        faultDue(full.toString(), 59);
    }

    private static void faultDue(String text, int want) {
        SnakeTrades race = new SnakeTrades();
        write(race, text);
        due("10: the fault of \"" + text + "\"", race.fault(), want);
        due("10: run of \"" + text + "\"", race.run() <= -100 ? 1 : 0, want == NONE ? 0 : 1);
    }

    private static void promise11Run() {
        SnakeTrades race = new SnakeTrades();
        due("11: empty", race.run(), -100);
        write(race, "66(0a>1");
        due("11: not complete", race.run(), -107);
        write(race, "66x");
        due("11: a fault", race.run(), -102);
        due("11: nothing is done or recorded", race.count(0) + race.count(11), 0);
        race.snake(9, 2);
        write(race, "63333(0a>3$3)1");
        due("11: all", race.run(), 7);
        due("11: one action", race.count(11), 2);
        due("11: turns", race.count(0), 6);
        due("11: the text is as before", race.count(12), 14);
        due("11: the bite is sold", race.player(3, 2), 1);
        due("11: the coins", race.player(3, 1), 1013);
        race.undo();
        due("11: undone together", race.count(0) + race.count(6), 0);
        write(race, "63333(0a>3$2)1");
        due("11: up to a sale that is refused", race.run(), 5);
        due("11: the orders ahead stand", race.count(0), 5);
        race.undo();
        write(race, "63333(0a>0$9)1");
        due("11: up to BAD_VALUE", race.run(), 5);
        race.undo();
        write(race, "63333(0b>1$9)1");
        due("11: up to NO_SUCH", race.run(), 5);
        race.undo();
        write(race, "63333(0a>1$30)1");
        due("11: two digits", race.run(), 7);
        due("11: two digits, coins", race.player(1, 1), 1040);
        write(race, "(0a>1$0)1");
        int states = race.count(11);
        due("11: not even one", race.run(), 0);
        due("11: recorded all the same", race.count(11), states + 1);
        SnakeTrades late = withOneHome();
        write(late, "6661");
        due("11: up to the end of the race", late.run(), 3);
        due("11: over", late.run(), 0);
        due("11: recorded while it is over", late.undo(), 4);
    }

    private static void promise12Undo() {
        SnakeTrades race = new SnakeTrades();
        due("12: empty", race.undo(), NONE);
        for (int i = 0; i < 6; i++) {
            race.turn(i + 1);
        }
        due("12: five states", race.count(11), 5);
        for (int left = 4; left >= 0; left--) {
            due("12: left", race.undo(), left);
            due("12: turns", race.count(0), left + 1);
        }
        due("12: the oldest is dropped", race.undo(), NONE);
        due("12: one turn remains", race.count(0), 1);
        SnakeTrades all = withBite();
        all.sell(0, 0, 1, 5);
        all.charm(0, 3);
        all.set(LIMIT, 1);
        all.append('1');
        all.save();
        all.undo();
        due("12: the setting", all.count(9), 20);
        all.undo();
        due("12: the sleep", all.snakeOf(0, 2), 2);
        all.undo();
        due("12: the bite", all.player(0, 2), 1);
        due("12: the holders", all.bite(0, 0, 3), 1);
        due("12: the coins", all.player(1, 1), 1010);
        due("12: the sales", all.count(6), 0);
        all.undo();
        due("12: ahead of the bite", all.player(0, 2) + all.count(5) + all.snakeOf(0, 3), 0);
        due("12: whose turn", all.count(1), 0);
        due("12: the text is as before", all.count(12), 1);
        due("12: the snapshot is as before", all.restore(), 5);
        due("12: of the snapshot", all.count(9), 1);
    }

    /** A race in which all that the state consists of is other than at first. */
    private static SnakeTrades rich() {
        SnakeTrades race = withOneHome();
        race.snake(56, 50);
        race.snake(57, 50);
        race.snake(58, 45);
        race.set(SLEEP, 1);
        race.set(LIMIT, 19);
        race.set(TRADES, 3);
        throwAll(race, "234");
        race.sell(1, 0, 3, 5);
        race.sell(3, 0, 2, 8);
        due("12: two sales", race.count(6), 2);
        return race;
    }

    private static void promise12And14Whole() {
        String before = told(rich());
        SnakeTrades other = rich();
        other.play(9, 5);
        other.charm(0, 10);
        other.snake(44, 33);
        other.set(TRADES, 1);
        due("12: the states differ", told(other).equals(before) ? 1 : 0, 0);
        for (int i = 0; i < 4; i++) {
            other.undo();
        }
        due("12: the whole state", told(other).equals(before) ? 1 : 0, 1);
        other.save();
        for (int x = 0; x < 12; x++) {
            other.play(x, 50);
        }
        other.charm(1, 10);
        due("14: the states differ", told(other).equals(before) ? 1 : 0, 0);
        other.restore();
        due("14: the whole state", told(other).equals(before) ? 1 : 0, 1);
        other.undo();
        due("14: undone", other.snakeOf(1, 0), NO_SUCH);
    }

    private static void promise13Save() {
        SnakeTrades race = new SnakeTrades();
        due("13: at first", race.save(), 0);
        due("13: not an action", race.count(11), 0);
        throwAll(race, "12");
        due("13: two turns", race.save(), 2);
        throwAll(race, "3");
        due("13: the newer snapshot", race.restore(), 2);
        due("13: its squares", race.player(1, 0), 2);
    }

    private static void promise14Restore() {
        SnakeTrades race = new SnakeTrades();
        due("14: none", race.restore(), NOT_POSSIBLE);
        due("14: nothing is recorded", race.count(11), 0);
        race.turn(4);
        race.save();
        throwAll(race, "55");
        due("14: one turn", race.restore(), 1);
        due("14: recorded", race.count(11), 4);
        due("14: piece", race.player(1, 0), 0);
        race.turn(6);
        due("14: it remains", race.restore(), 1);
        due("14: and is not changed", race.player(1, 0), 0);
        due("14: undone", race.undo(), 4);
        due("14: undone, piece", race.player(1, 0), 6);
        race.append('1');
        race.restore();
        due("14: the text is no part", race.count(12), 1);
    }

    private static void promise15Player() {
        SnakeTrades race = withBite();
        int[] ofFirst = {9, 1010, 1, 7, 2, NONE, 1, 0};
        for (int what = 0; what < ofFirst.length; what++) {
            due("15: player(0, " + what + ")", race.player(0, what), ofFirst[what]);
        }
        race.sell(0, 0, 1, 12);
        int[] ofSeller = {9, 998, 0, 0, 9, NONE, 1, 0};
        int[] ofBuyer = {3, 1022, 1, 7, 0, NONE, 0, 0};
        for (int what = 0; what < ofBuyer.length; what++) {
            due("15: sold, player(0, " + what + ")", race.player(0, what), ofSeller[what]);
            due("15: bought, player(1, " + what + ")", race.player(1, what), ofBuyer[what]);
        }
        race.turn(1);
        int[] ofHurt = {1, 1022, 0, 0, 1, NONE, 0, 3};
        for (int what = 0; what < ofHurt.length; what++) {
            due("15: hurt, player(1, " + what + ")", race.player(1, what), ofHurt[what]);
        }
        for (int strange : STRANGE) {
            due("15: player " + strange, race.player(strange, 0), NO_SUCH);
            due("15: what " + strange, race.player(0, strange), BAD_VALUE);
        }
        due("15: player 4", race.player(4, 9), NO_SUCH);
        due("15: what 8", race.player(3, 8), BAD_VALUE);
        SnakeTrades home = over();
        for (int player = 0; player < 4; player++) {
            due("15: place", home.player(player, 5), player + 1);
            due("15: home", home.player(player, 4), 60);
        }
    }

    private static void promise16Bite() {
        SnakeTrades race = withBite();
        int[] first = {7, 0, 0, 1};
        int[] sold = {7, 1, 0, 9};
        for (int what = 0; what < 4; what++) {
            due("16: bite(0, 0, " + what + ")", race.bite(0, 0, what), first[what]);
        }
        race.sell(0, 0, 3, 3);
        for (int what = 0; what < 4; what++) {
            due("16: bite(3, 0, " + what + ")", race.bite(3, 0, what), sold[what]);
        }
        due("16: what 4", race.bite(3, 0, 4), BAD_VALUE);
        due("16: no bite 1", race.bite(3, 1, 0), NO_SUCH);
        due("16: NO_SUCH ahead", race.bite(0, 0, 4), NO_SUCH);
        for (int strange : STRANGE) {
            due("16: player " + strange, race.bite(strange, 0, 0), NO_SUCH);
            due("16: bite " + strange, race.bite(3, strange, 0), NO_SUCH);
            due("16: what " + strange, race.bite(3, 0, strange), BAD_VALUE);
        }
        due("16: player 4", race.bite(4, 0, 0), NO_SUCH);
        SnakeTrades again = withBite();
        again.sell(0, 0, 1, 3);
        again.snake(7, 1);
        throwAll(again, "11116");
        int[] own = {6, 0, 1, 2};
        for (int what = 0; what < 4; what++) {
            due("16: a later bite, bite(1, 0, " + what + ")", again.bite(1, 0, what), own[what]);
        }
    }

    private static void promise17SnakeOf() {
        SnakeTrades race = withBite();
        int[] first = {9, 2, 2, 1};
        for (int what = 0; what < 4; what++) {
            due("17: snakeOf(0, " + what + ")", race.snakeOf(0, what), first[what]);
        }
        due("17: what 4", race.snakeOf(0, 4), BAD_VALUE);
        due("17: no snake 1", race.snakeOf(1, 0), NO_SUCH);
        due("17: NO_SUCH ahead", race.snakeOf(1, 4), NO_SUCH);
        for (int strange : STRANGE) {
            due("17: snake " + strange, race.snakeOf(strange, 0), NO_SUCH);
            due("17: what " + strange, race.snakeOf(0, strange), BAD_VALUE);
        }
        race.charm(0, 10);
        race.snake(9, 2);
        due("17: a new snake has not bitten", race.snakeOf(0, 3), 0);
        due("17: a new snake does not sleep", race.snakeOf(0, 2), 0);
    }

    private static void promise18Square() {
        SnakeTrades race = new SnakeTrades();
        race.snake(20, 2);
        race.snake(30, 2);
        race.snake(12, 6);
        throwAll(race, "6162");
        due("18: pieces on 6", race.square(6, 0), 5);
        due("18: piece on 1", race.square(1, 0), 2);
        due("18: piece on 2", race.square(2, 0), 8);
        due("18: none on 60", race.square(60, 0), 0);
        due("18: head on 30", race.square(30, 1), 1);
        due("18: head on 20", race.square(20, 1), 0);
        due("18: no head on 2", race.square(2, 1), NONE);
        due("18: no head on 0", race.square(0, 1), NONE);
        due("18: tails on 2", race.square(2, 2), 2);
        due("18: tail on 6", race.square(6, 2), 1);
        due("18: no tails on 0", race.square(0, 2), 0);
        due("18: no tail on 20", race.square(20, 2), 0);
        due("18: square -1", race.square(-1, 0), BAD_VALUE);
        due("18: square 61", race.square(61, 0), BAD_VALUE);
        due("18: what -1", race.square(0, -1), BAD_VALUE);
        due("18: what 3", race.square(0, 3), BAD_VALUE);
        for (int strange : STRANGE) {
            due("18: square " + strange, race.square(strange, 0), BAD_VALUE);
            due("18: what " + strange, race.square(0, strange), BAD_VALUE);
        }
        due("18: all at home", over().square(60, 0), 15);
    }

    private static void promise19Count() {
        SnakeTrades race = withBite();
        race.snake(30, 12);
        race.snake(31, 12);
        race.sell(0, 0, 2, 4);
        race.set(SLEEP, 3);
        race.set(LIMIT, 7);
        race.set(TRADES, 3);
        write(race, "12");
        int[] counts = {5, 1, 4, 3, 1, 1, 1, 40, 3, 7, 3, 5, 2};
        for (int what = 0; what < counts.length; what++) {
            due("19: count(" + what + ")", race.count(what), counts[what]);
        }
        due("19: a bite of the player 0 is held", withBite().count(4), 1);
        due("19: 13", race.count(13), BAD_VALUE);
        for (int strange : STRANGE) {
            due("19: " + strange, race.count(strange), BAD_VALUE);
        }
        throwAll(race, "11");
        due("19: the bite is gone", race.count(4), 0);
        due("19: but was", race.count(5), 1);
        due("19: nobody is in the race", over().count(2), 0);
        due("19: nobody's turn", over().count(1), NONE);
    }

    private static void promise20Why() {
        SnakeTrades race = withBite();
        due("20: 0", race.why(0, 0, 1, 3), 0);
        due("20: 0 up to the limit", race.why(0, 0, 1, 30), 0);
        due("20: 4", race.why(0, 0, 1, 31), 4);
        due("20: 5", race.why(0, 0, 1, 2), 5);
        due("20: 5 with 0", race.why(0, 0, 1, 0), 5);
        due("20: seller 4", race.why(4, 0, 1, 3), NO_SUCH);
        due("20: buyer 4", race.why(0, 0, 4, 300), NO_SUCH);
        due("20: bite 1", race.why(0, 1, 0, 3), NO_SUCH);
        due("20: the same", race.why(0, 0, 0, 3), BAD_VALUE);
        due("20: coins -1", race.why(0, 0, 1, -1), BAD_VALUE);
        due("20: coins 100", race.why(0, 0, 1, 100), BAD_VALUE);
        for (int strange : STRANGE) {
            due("20: seller " + strange, race.why(strange, 0, 1, 3), NO_SUCH);
            due("20: buyer " + strange, race.why(0, 0, strange, 3), NO_SUCH);
            due("20: coins " + strange, race.why(0, 0, 1, strange), BAD_VALUE);
        }
        due("20: nothing changes", race.count(11) * 10 + race.player(0, 2), 51);
        race.sell(0, 0, 1, 30);
        race.set(LIMIT, 0);
        due("20: 3 ahead of 5", race.why(1, 0, 0, 0), 3);
        due("20: 3 ahead of 4", race.why(1, 0, 0, 99), 3);
        due("20: 4 ahead of 5 can't be with coins", race.why(1, 0, 2, 0), 5);
        race.set(TRADES, 1);
        due("20: 2 ahead of 3", race.why(1, 0, 0, 9), 2);
        due("20: a deep debt", deepDebt().why(0, 0, 1, 0), 4);
    }

    /** The player 0 is deeper in debt than the limit allows by now, and holds a bite again. */
    private static SnakeTrades deepDebt() {
        SnakeTrades race = withBite();
        race.sell(0, 0, 1, 30);
        race.set(LIMIT, 0);
        throwAll(race, "5111");
        race.snake(20, 12);
        for (int round = 0; round < 30 && race.player(0, 0) != 20; round++) {
            int missing = 20 - race.player(0, 0);
            race.turn(missing > 6 ? 1 : missing);
            throwAll(race, "111");
        }
        return race;
    }

    private static void promise21Cheapest() {
        SnakeTrades race = withBite();
        due("21: the lowest number of several", race.cheapest(0, 0), 103);
        due("21: seller 4", race.cheapest(4, 0), NO_SUCH);
        due("21: bite 1", race.cheapest(0, 1), NO_SUCH);
        for (int strange : STRANGE) {
            due("21: seller " + strange, race.cheapest(strange, 0), NO_SUCH);
            due("21: bite " + strange, race.cheapest(0, strange), NO_SUCH);
        }
        race.sell(0, 0, 1, 3);
        due("21: not back", race.cheapest(1, 0), 203);
        race.set(TRADES, 1);
        due("21: none, sold too often", race.cheapest(1, 0), NONE);
        race.set(TRADES, 2);
        race.set(LIMIT, 0);
        race.sell(1, 0, 2, 13);
        race.set(TRADES, 3);
        due("21: the last one", race.cheapest(2, 0), 303);
        SnakeTrades second = new SnakeTrades();
        second.snake(9, 2);
        throwAll(second, "663313");
        due("21: to the player 0", second.cheapest(1, 0), 3);
        SnakeTrades more = new SnakeTrades();
        more.snake(7, 1);
        more.snake(8, 1);
        more.snake(9, 1);
        throwAll(more, "666612");
        due("21: the buyer with a bite asks for more", more.cheapest(0, 0), 202);
        due("21: rounded up", more.cheapest(1, 0), 203);
        SnakeTrades poor = deepDebt();
        due("21: none, a debt", poor.cheapest(0, 0), NONE);
        SnakeTrades home = withOneHome();
        home.snake(59, 53);
        home.turn(5);
        due("21: not to a player at home", home.cheapest(1, 0), 202);
        SnakeTrades alone = withOneHome();
        throwAll(alone, "66");
        alone.snake(58, 43);
        alone.turn(4);
        due("21: nobody else is in the race", alone.cheapest(3, 0), NONE);
    }

    private static void promise22Dangers() {
        SnakeTrades race = new SnakeTrades();
        race.snake(7, 1);
        race.snake(8, 1);
        race.snake(12, 1);
        due("22: none", race.dangers(0), 0);
        throwAll(race, "6666");
        due("22: three", race.dangers(0), 1 << 1 | 1 << 2 | 1 << 6);
        due("22: of a later player", race.dangers(3), 1 << 1 | 1 << 2 | 1 << 6);
        race.charm(1, 1);
        due("22: a sleeping snake", race.dangers(0), 1 << 1 | 1 << 6);
        race.turn(1);
        due("22: a piece and a sleeping snake", race.dangers(1), 1 << 2 | 1 << 6);
        due("22: the bites hurt first", race.dangers(0), 0);
        race.undo();
        race.set(SLEEP, 0);
        race.turn(1);
        due("22: another piece is there", race.dangers(1), 1 << 2 | 1 << 6);
        due("22: own piece, but from 1 on", race.dangers(0), 1 << 6);
        due("22: player 4", race.dangers(4), NO_SUCH);
        for (int strange : STRANGE) {
            due("22: player " + strange, race.dangers(strange), NO_SUCH);
        }
        SnakeTrades home = withOneHome();
        home.snake(59, 40);
        home.snake(58, 40);
        due("22: not in the race", home.dangers(0), NOT_POSSIBLE);
        due("22: in the race", home.dangers(1), 1 << 4 | 1 << 5);
        home.turn(4);
        due("22: beyond the end and back", home.dangers(2), 1 << 5);
        home.undo();
        throwAll(home, "3");
        due("22: backwards from 57", home.dangers(1), 1 << 1 | 1 << 2 | 1 << 4 | 1 << 5);
    }

    private static void promise23Fewest() {
        SnakeTrades race = new SnakeTrades();
        fewestDue("without snakes", race, 0, 10);
        race.turn(1);
        fewestDue("from 1", race, 0, 10);
        throwAll(race, "111");
        throwAll(race, "5111");
        fewestDue("from 6", race, 0, 9);
        due("23: player 4", race.fewest(4, 2), NO_SUCH);
        due("23: way 2", race.fewest(0, 2), BAD_VALUE);
        due("23: way -1", race.fewest(0, -1), BAD_VALUE);
        for (int strange : STRANGE) {
            due("23: player " + strange, race.fewest(strange, 0), NO_SUCH);
            due("23: way " + strange, race.fewest(0, strange), BAD_VALUE);
        }
        SnakeTrades home = withOneHome();
        fewestDue("at home", home, 0, 0);
        due("23: BAD_VALUE ahead of 0", home.fewest(0, 2), BAD_VALUE);
        fewestDue("from 54", home, 1, 1);
        home.turn(5);
        home.snake(54, 30);
        fewestDue("from 59", home, 1, 1);
        fewestDue("from a head", home, 2, 1);
        SnakeTrades wall = new SnakeTrades();
        for (int head = 54; head < 60; head++) {
            wall.snake(head, 34);
        }
        fewestDue("a wall", wall, 0, NONE);
        wall.charm(2, 9);
        fewestDue("sleeping snakes bite, too", wall, 0, NONE);
        wall.charm(2, 10);
        fewestDue("a gap", wall, 0, 11);
        SnakeTrades bitten = withBite();
        fewestDue("bites hurt first", bitten, 0, 10);
        bitten.sell(0, 0, 1, 3);
        fewestDue("and not when they are sold", bitten, 0, 9);
        SnakeTrades chain = new SnakeTrades();
        chain.snake(20, 14);
        chain.snake(26, 20);
        for (int head = 54; head < 58; head++) {
            chain.snake(head, 20);
        }
        fewestDue("a tail on a head", chain, 0, 11);
    }

    private static void fewestDue(String what, SnakeTrades race, int player, int want) {
        due("23: " + what + ", on", race.fewest(player, 0), want);
        due("23: " + what + ", back", race.fewest(player, 1), want);
    }

    private static void promise24NextHome() {
        SnakeTrades race = withOneHome();
        due("24: x -1", race.nextHome(-1), BAD_VALUE);
        due("24: x 65536", race.nextHome(65536), BAD_VALUE);
        for (int strange : STRANGE) {
            due("24: x " + strange, race.nextHome(strange < 65536 && strange > 0 ? -strange : strange), BAD_VALUE);
        }
        int told = race.nextHome(77);
        due("24: nothing changes", race.count(0), 37);
        due("24: nothing is recorded", race.count(11), 5);
        int places = race.count(2);
        for (int many = 1; many <= 50 && race.play(77, many) > 0 && race.count(2) == places; many++) {
            race.undo();
        }
        due("24: the same as play", race.player(told, 5), 2);
        due("24: over", over().nextHome(0), NOT_POSSIBLE);
        due("24: BAD_VALUE ahead", over().nextHome(-1), BAD_VALUE);
        SnakeTrades wall = steep();
        int nobody = 0;
        for (int x = 0; x < 20; x++) {
            nobody += wall.nextHome(x) == NONE ? 1 : 0;
        }
        due("24: nobody comes home", nobody > 0 ? 1 : 0, 1);
    }

    /** For many x, nextHome tells what turns with the same throws bring; home in the turn 200 is in time. */
    private static void promise24Turns() {
        boolean inTheLast = false;
        boolean tooLate = false;
        for (int x = 0; x < 65536 && !(inTheLast && tooLate); x++) {
            SnakeTrades race = steep();
            int told = race.nextHome(x);
            long drawn = x;
            int turns = 0;
            int mover = 0;
            while (turns < 201 && race.count(2) == 4) {
                drawn = (25173 * drawn + 13849) % 65536;
                mover = race.count(1);
                race.turn((int) (1 + drawn / 10923));
                turns++;
            }
            boolean home = race.count(2) < 4;
            if (x < 50 || home && turns >= 199) {
                due("24: nextHome(" + x + ")", told, home && turns <= 200 ? mover : NONE);
            }
            inTheLast |= home && turns == 200;
            tooLate |= home && turns == 201;
        }
        due("24: home in the turn 200, and in the turn 201", inTheLast && tooLate ? 1 : 0, 1);
    }

    private static void promise25Progress() {
        SnakeTrades race = withBite();
        Checks.due("25: bites hurt first", race.progress(0), 2 / 60.0);
        Checks.due("25: without bites", race.progress(1), 3 / 60.0);
        race.sell(0, 0, 1, 3);
        Checks.due("25: sold", race.progress(0), 9 / 60.0);
        Checks.due("25: not below 0", race.progress(1), 0.0);
        Checks.due("25: at first", new SnakeTrades().progress(0), 0.0);
        Checks.due("25: player 4", race.progress(4), 0.0);
        for (int strange : STRANGE) {
            Checks.due("25: player " + strange, race.progress(strange), 0.0);
        }
        Checks.due("25: home", withOneHome().progress(0), 1.0);
        Checks.due("25: on 54", withOneHome().progress(1), 0.9);
    }
}
