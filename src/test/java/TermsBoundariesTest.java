import java.io.IOException;

/** Each sentence of the document on the race and its trades that names a boundary case, with a test of its own. */
public final class TermsBoundariesTest extends Races {
    private static final String[] HEADINGS = {"Terms", "Settings", "Bites", "A turn", "Trades"};

    private final Document document;

    private TermsBoundariesTest(Document document) {
        this.document = document;
    }

    public static void main(String[] arguments) throws IOException {
        checkAll(new Document());
        Checks.end("TermsBoundariesTest");
    }

    static void checkAll(Document document) {
        TermsBoundariesTest test = new TermsBoundariesTest(document);
        test.calls();
        test.squaresAndPlayers();
        test.snakes();
        test.settings();
        test.bites();
        test.turnForward();
        test.turnBite();
        test.turnOfTheNext();
        test.trades();
        test.reasons();
        test.askedCoins();
        test.reasonsInOrder();
        for (String heading : HEADINGS) {
            test.document.nothingLeftOut(heading);
        }
    }

    // ---- What it is

    private void calls() {
        document.section("What it is");
        document.sentence("An object is used for at most 512 calls after it has been made", () -> {
            SnakeTrades charmed = new SnakeTrades();
            charmed.snake(9, 2);
            for (int call = 2; call < 512; call++) {
                due("charm as the call " + call, charmed.charm(0, 9), 9 * (call - 2));
            }
            due("snakeOf as the call 512", charmed.snakeOf(0, 2), 9 * 510);
            SnakeTrades played = new SnakeTrades();
            for (int call = 1; call < 512; call++) {
                due("turn as the call " + call, played.turn(call > 236 ? 2 : 1), call > 236 ? 59 : (call + 3) / 4);
            }
            due("count as the call 512", played.count(0), 511);
            SnakeTrades written = new SnakeTrades();
            for (int call = 1; call < 512; call++) {
                due("append as the call " + call, written.append('1'), call > 60 ? TOO_MANY : call);
            }
            due("fault as the call 512", written.fault(), NONE);
        });
    }

    // ---- Terms

    private void squaresAndPlayers() {
        document.section("Terms");
        document.sentence("The squares are numbered from 0 to 60.", () -> {
            due("square(0, 0)", new SnakeTrades().square(0, 0), 15);
            due("square(60, 0)", over().square(60, 0), 15);
            wrongDue("square(?, 0)", 0, 60, square -> new SnakeTrades().square(square, 0), BAD_VALUE);
        });
        document.sentence("There are 4 players, 0 to 3", () -> {
            SnakeTrades race = new SnakeTrades();
            due("count(2)", race.count(2), 4);
            for (int player = 0; player < 4; player++) {
                due("count(1)", race.count(1), player);
                race.turn(player + 1);
                due("player(" + player + ", 0)", race.player(player, 0), player + 1);
            }
            due("count(1) after four turns", race.count(1), 0);
            wrongDue("player(?, 0)", 0, 3, player -> race.player(player, 0), NO_SUCH);
        });
        document.sentence("which stands on the square 0 at first, and coins (10 at first; they can be below 0)", () -> {
            for (int player = 0; player < 4; player++) {
                due("player(" + player + ", 0) at first", new SnakeTrades().player(player, 0), 0);
                due("player(" + player + ", 1) at first", new SnakeTrades().player(player, 1), 1010);
            }
            for (int coins = 9; coins < 12; coins++) {
                SnakeTrades race = withBite();
                race.sell(0, 0, 1, coins);
                due("player(0, 1) less " + coins, race.player(0, 1), 1010 - coins);
                due("player(1, 1) and " + coins, race.player(1, 1), 1010 + coins);
            }
        });
        document.sentence("and is in the race until its piece is on the square 60.", () -> {
            SnakeTrades race = standing(54, 54, 54, 54);
            race.turn(5);
            due("count(2) with a piece on 59", race.count(2), 4);
            due("player(0, 5) on 59", race.player(0, 5), NONE);
            race.turn(6);
            due("count(2) with a piece on 60", race.count(2), 3);
            due("player(1, 5) on 60", race.player(1, 5), 1);
            due("dangers(1) on 60", race.dangers(1), NOT_POSSIBLE);
        });
        document.sentence("The player whose turn it is is the player 0 at first.",
            () -> due("count(1)", new SnakeTrades().count(1), 0));
    }

    private void snakes() {
        document.section("Terms");
        document.sentence("There are at most 10 snakes; the number of a new one is the least number from 0 to 9 that"
            + " no snake has.", () -> {
                SnakeTrades race = new SnakeTrades();
                for (int number = 0; number < 10; number++) {
                    due("snake(" + (20 + number) + ", 10)", race.snake(20 + number, 10), number);
                }
                due("snake(30, 10) as the eleventh", race.snake(30, 10), TOO_MANY);
                for (int gone : new int[] {9, 4, 0}) {
                    race.charm(gone, 10);
                    due("snake(30, 10) without " + gone, race.snake(30, 10), gone);
                    race.undo();
                }
                due("snake(30, 10) without 0, 4 and 9", race.snake(30, 10), 0);
                due("snake(31, 10) without 4 and 9", race.snake(31, 10), 4);
                due("snake(32, 10) without 9", race.snake(32, 10), 9);
                due("snake(33, 10) as the eleventh", race.snake(33, 10), TOO_MANY);
            });
        document.sentence("A snake has a head on a square from 7 to 59, on which there is no other head", () -> {
            SnakeTrades race = new SnakeTrades();
            due("snake(7, 1)", race.snake(7, 1), 0);
            due("snake(59, 19)", race.snake(59, 19), 1);
            due("snake(60, 20)", race.snake(60, 20), BAD_VALUE);
            due("snake(6, 0)", race.snake(6, 0), BAD_VALUE);
            due("snake(59, 20) on a head", race.snake(59, 20), NOT_POSSIBLE);
            due("snake(58, 19) beside a head, to the same tail", race.snake(58, 19), 2);
            due("snake(19, 7) on a tail, to a head", race.snake(19, 7), 3);
            race.charm(1, 10);
            due("snake(59, 20) when the head is gone", race.snake(59, 20), 1);
        });
        document.sentence("a tail on a square that is from 6 to 40 less, but at least 1, and a sleep: a number of turns"
            + " (0 at first). (So the size of its bite, the head less the tail, is from 6 to 40.)", () -> {
                SnakeTrades race = standing(46, 46, 46, 46);
                due("snake(47, 42)", race.snake(47, 42), BAD_VALUE);
                due("snake(47, 6)", race.snake(47, 6), BAD_VALUE);
                due("snake(40, 0)", race.snake(40, 0), BAD_VALUE);
                due("snake(41, 1)", race.snake(41, 1), 0);
                due("snake(47, 7)", race.snake(47, 7), 1);
                due("snake(48, 42)", race.snake(48, 42), 2);
                due("snakeOf(2, 2)", race.snakeOf(2, 2), 0);
                throwAll(race, "12");
                due("bite(0, 0, 0)", race.bite(0, 0, 0), 40);
                due("bite(1, 0, 0)", race.bite(1, 0, 0), 6);
            });
        document.sentence("A snake with a sleep above 0 does not bite.", () -> {
            for (int sleep = 0; sleep < 3; sleep++) {
                SnakeTrades race = standing(6, 6, 6, 6);
                race.snake(9, 2);
                if (sleep > 0) {
                    race.charm(0, sleep);
                }
                race.turn(3);
                due("player(0, 2), sleep " + sleep, race.player(0, 2), sleep == 0 ? 1 : 0);
            }
        });
    }

    // ---- Settings

    private void settings() {
        document.section("Settings");
        settingRange("SLEEP (0 to 9; 2 at first)", SLEEP, 0, 9, 2);
        settingRange("LIMIT (0 to 50; 20 at first)", LIMIT, 0, 50, 20);
        settingRange("TRADES (1 to 3; 2 at first)", TRADES, 1, 3, 2);
        document.sentence("for how many turns a snake sleeps when it has bitten", () -> {
            for (int sleep : new int[] {0, 1, 8, 9}) {
                SnakeTrades race = alone(53);
                race.set(SLEEP, sleep);
                race.snake(59, 53);
                race.turn(6);
                // bitten on 59, the piece comes back there from 53, and then from 59 itself
                for (int turn = 0; turn < sleep; turn++) {
                    race.turn(turn == 0 ? 6 : 2);
                    due("bites after " + (turn + 1) + " turns, SLEEP " + sleep, race.count(5), 1);
                }
                due("turn after the sleep", race.turn(sleep == 0 ? 6 : 2), 59);
                due("bites after the sleep, SLEEP " + sleep, race.count(5), 2);
            }
        });
        document.sentence("how far the coins of a player may be below 0", () -> {
            for (int limit : new int[] {0, 20, 50}) {
                SnakeTrades race = withBite();
                race.set(LIMIT, limit);
                due("sell beyond the limit " + limit, race.sell(0, 0, 1, 11 + limit), -14);
                due("sell to the limit " + limit, race.sell(0, 0, 1, 10 + limit), 1020 + limit);
                due("player(0, 1)", race.player(0, 1), 1000 - limit);
            }
        });
        document.sentence("how often a bite can be sold", () -> {
            for (int trades = 1; trades <= 3; trades++) {
                SnakeTrades race = withBite();
                race.set(TRADES, trades);
                for (int seller = 0; seller < trades; seller++) {
                    due("sell by " + seller, race.sell(seller, 0, seller + 1, 3), 1013);
                }
                due("sell with TRADES " + trades, race.sell(trades, 0, (trades + 1) % 4, 3), -12);
            }
        });
    }

    private void settingRange(String words, int setting, int least, int highest, int first) {
        document.sentence(words, () -> {
            SnakeTrades race = new SnakeTrades();
            due("count at first", race.count(8 + setting), first);
            wrongDue("set(" + setting + ", ?)", least, highest, value -> race.set(setting, value), BAD_VALUE);
            due("set to the least", race.set(setting, least), first);
            due("count of the least", race.count(8 + setting), least);
            due("set to the highest", race.set(setting, highest), least);
            due("count of the highest", race.count(8 + setting), highest);
        });
    }

    // ---- Bites

    private void bites() {
        document.section("Bites");
        document.sentence("A player holds any number of bites, in the order in which they came to the player.", () -> {
            due("player(0, 2), none", new SnakeTrades().player(0, 2), 0);
            due("bite(0, 0, 0), none", new SnakeTrades().bite(0, 0, 0), NO_SUCH);
            SnakeTrades race = tenInOneHand();
            due("player(3, 2)", race.player(3, 2), 10);
            due("player(3, 3)", race.player(3, 3), 60);
            int[] bitten = {3, 0, 1, 1, 0, 2, 2, 0, 1, 2};
            int[] sold = {0, 1, 2, 1, 3, 2, 1, 1, 1, 1};
            for (int bite = 0; bite < 10; bite++) {
                due("bite(3, " + bite + ", 2)", race.bite(3, bite, 2), bitten[bite]);
                due("bite(3, " + bite + ", 1)", race.bite(3, bite, 1), sold[bite]);
            }
            due("bite(3, 10, 0)", race.bite(3, 10, 0), NO_SUCH);
            due("sell of the last of ten", race.sell(3, 9, 0, 2), race.player(0, 1));
            due("bite(0, 0, 2)", race.bite(0, 0, 2), 2);
            race.turn(1);
            due("player(3, 0), nine bites hurt", race.player(3, 0), 1);
            due("player(3, 2), they are gone", race.player(3, 2), 0);
            SnakeTrades passed = standing(40, 40, 40, 40);
            beBitten(passed, 10);
            beBitten(passed, 11);
            sellDue(passed, 1, 0, 0, 6);
            sellDue(passed, 0, 0, 3, 4);
            due("bite(0, 0, 0), moved up", passed.bite(0, 0, 0), 11);
            beBitten(passed, 12);
            sellDue(passed, 2, 0, 0, 6);
            due("bite(0, 0, 0), the same", passed.bite(0, 0, 0), 11);
            due("bite(0, 1, 0), the latest", passed.bite(0, 1, 0), 12);
            due("bite(3, 0, 0)", passed.bite(3, 0, 0), 10);
        });
        document.sentence("the piece goes back by the sizes of all of them together, but not farther than to the"
            + " square 0, and they are gone.", () -> {
                int[] second = {6, 7, 8, 11};
                int[] beginning = {1, 0, 0, 0};
                for (int i = 0; i < second.length; i++) {
                    SnakeTrades race = standing(7, 7, 7, 7);
                    race.snake(13, 7);
                    race.snake(12, 12 - second[i]);
                    throwAll(race, "65");
                    due("sell", race.sell(1, 0, 0, 6), 1016);
                    throwAll(race, "11");
                    due("player(0, 4), on 13", race.player(0, 4), beginning[i]);
                    due("turn(1)", race.turn(1), beginning[i] + 1);
                    due("player(0, 7)", race.player(0, 7), 13 - beginning[i]);
                    due("player(0, 2)", race.player(0, 2), 0);
                    due("count(4)", race.count(4), 0);
                    race.play(0, 3);
                    due("turn(1), it hurts only once", race.turn(1), beginning[i] + 2);
                }
            });
    }

    /** The player 3 holds ten bites and is to throw; each bite is passed on as long as it has to wait. */
    private static SnakeTrades tenInOneHand() {
        SnakeTrades race = standing(6, 6, 6, 6);
        race.set(LIMIT, 50);
        race.set(TRADES, 3);
        beBitten(race, 6);
        beBitten(race, 6);
        beBitten(race, 6);
        sellDue(race, 0, 0, 2, 4);
        race.turn(1);
        beBitten(race, 6);
        sellDue(race, 1, 0, 0, 4);
        beBitten(race, 6);
        sellDue(race, 2, 1, 1, 4);
        sellDue(race, 2, 0, 1, 6);
        beBitten(race, 6);
        beBitten(race, 6);
        int[] sellers = {0, 0, 1, 1, 1, 2};
        for (int i = 0; i < sellers.length; i++) {
            sellDue(race, sellers[i], 0, 3, 4 + 2 * i);
        }
        for (int player = 0; player < 3; player++) {
            beBitten(race, 6);
            sellDue(race, player, 0, 3, 16 + 2 * player);
        }
        return race;
    }

    private static void sellDue(SnakeTrades race, int seller, int bite, int buyer, int coins) {
        int before = race.player(buyer, 1);
        due("sell(" + seller + ", " + bite + ", " + buyer + ", " + coins + ")",
            race.sell(seller, bite, buyer, coins), before + coins);
    }

    // ---- A turn

    private void turnForward() {
        document.section("A turn");
        document.sentence("has a throw from 1 to 6", () -> {
            SnakeTrades race = standing(6, 6, 6, 6);
            due("turn(1)", race.turn(1), 7);
            due("turn(6)", race.turn(6), 12);
            wrongDue("turn(?)", 1, 6, race::turn, BAD_VALUE);
        });
        document.sentence("1. The bites of the player hurt.", () -> {
            SnakeTrades race = withBite();
            race.turn(1);
            due("player(0, 0), the turn of another player", race.player(0, 0), 9);
            throwAll(race, "11");
            due("turn(1), back by 7 first", race.turn(1), 3);
            SnakeTrades sold = withBite();
            sold.sell(0, 0, 1, 3);
            due("turn(1) of the buyer", sold.turn(1), 1);
            throwAll(sold, "11");
            due("turn(1) of the seller", sold.turn(1), 10);
        });
        document.sentence("if it would come beyond the square 60, it goes on backwards from there (with 3 from the"
            + " square 58 it comes to the square 59)", () -> {
                for (int from = 54; from < 60; from++) {
                    SnakeTrades race = standing(from, 54, 54, 54);
                    for (int dice = 1; dice <= 6; dice++) {
                        int beyond = Math.max(0, from + dice - 60);
                        due("turn(" + dice + ") from " + from, race.turn(dice), from + dice - 2 * beyond);
                        race.undo();
                    }
                }
                due("turn(3) from 58", standing(58, 54, 54, 54).turn(3), 59);
            });
    }

    private void turnBite() {
        document.section("A turn");
        document.sentence("If there is the head of a snake on this square that does not sleep, and no piece of another"
            + " player is there, the snake bites", () -> {
                SnakeTrades race = standing(6, 6, 6, 6);
                race.snake(9, 2);
                race.charm(0, 1);
                race.turn(3);
                due("player(0, 6), a sleeping snake", race.player(0, 6), 0);
                due("snakeOf(0, 2)", race.snakeOf(0, 2), 0);
                race.turn(3);
                due("player(1, 6), a piece is there", race.player(1, 6), 0);
                throwAll(race, "221");
                race.turn(1);
                due("turn(1)", race.turn(1), 9);
                due("player(2, 6), the pieces have gone on", race.player(2, 6), 1);
                due("snakeOf(0, 3)", race.snakeOf(0, 3), 1);
            });
        document.sentence("4. Each sleep above 0 becomes 1 less.", () -> {
            SnakeTrades race = new SnakeTrades();
            for (int snake = 0; snake < 3; snake++) {
                race.snake(40 + snake, 20);
            }
            race.charm(1, 1);
            race.charm(2, 2);
            int[][] sleeps = {{0, 0, 0}, {1, 0, 0}, {2, 1, 0}};
            for (int turns = 0; turns < 3; turns++) {
                for (int snake = 0; snake < 3; snake++) {
                    due("snakeOf(" + snake + ", 2), turns " + turns, race.snakeOf(snake, 2), sleeps[snake][turns]);
                }
                race.turn(1);
            }
        });
        biteBackwards();
    }

    /** The numbers of the rule hold on the way back from the last square, too. */
    private void biteBackwards() {
        document.sentence("the player gets a bite of its size, and the sleep of the snake becomes SLEEP plus 1.",
            () -> {
                SnakeTrades race = standing(58, 54, 54, 54);
                race.snake(59, 19);
                race.snake(58, 20);
                race.charm(1, 5);
                race.turn(3);
                due("player(0, 3)", race.player(0, 3), 40);
                due("snakeOf(0, 2) after the turn", race.snakeOf(0, 2), 2);
                due("snakeOf(1, 2), another snake", race.snakeOf(1, 2), 4);
                SnakeTrades own = alone(59);
                own.snake(59, 53);
                own.set(SLEEP, 0);
                own.turn(2);
                due("player(3, 2), from the head to the head", own.player(3, 2), 1);
                due("snakeOf(0, 2), SLEEP 0", own.snakeOf(0, 2), 0);
            });
    }

    private void turnOfTheNext() {
        document.section("A turn");
        document.sentence("Then it is the turn of the next player who is in the race, around from the player 3 to the"
            + " player 0 (it can be the same player).", () -> {
                moversDue("all in the race", standing(6, 6, 6, 6), 0, 1, 2, 3, 0, 1);
                moversDue("0 is home", withOneHome(), 1, 2, 3, 1, 2);
                SnakeTrades withoutLast = standing(48, 48, 48, 54);
                throwAll(withoutLast, "1116");
                moversDue("3 is home", withoutLast, 0, 1, 2, 0, 1);
                SnakeTrades outer = standing(48, 54, 54, 48);
                throwAll(outer, "166");
                moversDue("1 and 2 are home", outer, 3, 0, 3, 0);
                moversDue("3 is alone", alone(20), 3, 3, 3);
            });
        document.sentence("If nobody is in the race any more, the race is over: it is nobody's turn.", () -> {
            SnakeTrades race = alone(54);
            due("count(1) with one player", race.count(1), 3);
            race.turn(6);
            due("count(1)", race.count(1), NONE);
            due("count(2)", race.count(2), 0);
            due("turn(1)", race.turn(1), NOT_POSSIBLE);
        });
    }

    private static void moversDue(String what, SnakeTrades race, int... movers) {
        for (int mover : movers) {
            due("count(1), " + what, race.count(1), mover);
            race.turn(1);
        }
    }

    // ---- Trades

    private void trades() {
        document.section("Trades");
        document.sentence("the buyer gets so many coins from the seller, and holds the bite from then on, as the last"
            + " one.", () -> {
                SnakeTrades race = standing(7, 7, 7, 7);
                race.snake(13, 7);
                race.snake(12, 5);
                throwAll(race, "65");
                race.sell(1, 0, 0, 30);
                due("player(0, 1)", race.player(0, 1), 1040);
                due("player(1, 1)", race.player(1, 1), 980);
                due("bite(0, 0, 0), the own bite", race.bite(0, 0, 0), 6);
                due("bite(0, 1, 0), the one bought", race.bite(0, 1, 0), 7);
                due("bite(1, 0, 0)", race.bite(1, 0, 0), NO_SUCH);
            });
    }

    private void reasons() {
        document.section("Trades");
        document.sentence("1 the buyer is not in the race;", () -> {
            SnakeTrades race = standing(54, 54, 54, 54);
            race.snake(55, 49);
            throwAll(race, "651");
            due("why, the buyer on 60", race.why(2, 0, 0, 2), 1);
            due("why, the buyer on 59", race.why(2, 0, 1, 2), 0);
            due("sell, the buyer on 60", race.sell(2, 0, 0, 2), -11);
        });
        document.sentence("2 the bite has been sold TRADES times or more;", () -> {
            SnakeTrades race = withBite();
            race.sell(0, 0, 1, 3);
            due("why, sold once of twice", race.why(1, 0, 2, 3), 0);
            race.sell(1, 0, 2, 3);
            due("why, sold twice of twice", race.why(2, 0, 3, 3), 2);
            race.set(TRADES, 1);
            due("why, sold twice of once", race.why(2, 0, 3, 3), 2);
            race.set(TRADES, 3);
            due("why, sold twice of three times", race.why(2, 0, 3, 3), 0);
        });
        document.sentence("3 the buyer has held it already;", () -> {
            SnakeTrades race = withBite();
            race.set(TRADES, 3);
            race.sell(0, 0, 2, 3);
            due("why, to who was bitten", race.why(2, 0, 0, 3), 3);
            race.sell(2, 0, 3, 3);
            due("why, to who was bitten, later", race.why(3, 0, 0, 3), 3);
            due("why, to who sold it", race.why(3, 0, 2, 3), 3);
            due("why, to who has not held it", race.why(3, 0, 1, 3), 0);
        });
        document.sentence("4 the coins of the seller would be less than 0 - LIMIT then;", () -> {
            SnakeTrades race = withBite();
            for (int limit : new int[] {0, 1, 20, 49, 50}) {
                race.set(LIMIT, limit);
                due("why, down to -" + limit, race.why(0, 0, 1, 10 + limit), 0);
                due("why, one below -" + limit, race.why(0, 0, 1, 11 + limit), 4);
            }
        });
    }

    private void askedCoins() {
        document.section("Trades");
        document.sentence("5 the buyer asks for more: at least as many coins as a third of the size, rounded up, and 2"
            + " more for each bite that the buyer holds.", () -> {
                for (int size = 6; size <= 40; size++) {
                    SnakeTrades race = standing(40, 40, 40, 40);
                    int asked = size / 3 + (size % 3 == 0 ? 0 : 1);
                    for (int held = 0; held < 3; held++) {
                        beBitten(race, size);
                        due("why with a coin less, size " + size, race.why(held, 0, 3, asked + 2 * held - 1), 5);
                        due("why with 0 coins, size " + size, race.why(held, 0, 3, 0), 5);
                        due("sell, size " + size + ", held " + held, race.sell(held, 0, 3, asked + 2 * held),
                            1010 + (held + 1) * asked + held * (held + 1));
                    }
                }
            });
    }

    private void reasonsInOrder() {
        document.section("Trades");
        document.sentence("It is refused for the first of these reasons that applies", () -> {
            SnakeTrades race = heldByOneAtHome();
            due("why, 1 ahead of 3", race.why(2, 0, 0, 2), 1);
            due("why, 1 ahead of 3 and 4", race.why(2, 0, 0, 99), 1);
            due("why, 1 ahead of 3 and 5", race.why(2, 0, 0, 0), 1);
            race.set(TRADES, 1);
            due("why, 1 ahead of 2", race.why(2, 0, 0, 2), 1);
            due("why, 2 ahead of 4", race.why(2, 0, 1, 99), 2);
            due("why, 2 ahead of 5", race.why(2, 0, 1, 0), 2);
            SnakeTrades sold = withBite();
            sold.sell(0, 0, 1, 30);
            due("why, 3 ahead of 4", sold.why(1, 0, 0, 99), 3);
            due("why, 3 ahead of 5", sold.why(1, 0, 0, 0), 3);
            sold.set(TRADES, 1);
            due("why, 2 ahead of 3", sold.why(1, 0, 0, 3), 2);
            throwAll(sold, "111");
            beBitten(sold, 6);
            due("why at the limit, 5 without coins", sold.why(0, 0, 2, 0), 5);
            due("why at the limit, 4 ahead of 5", sold.why(0, 0, 2, 1), 4);
            sold.set(LIMIT, 19);
            due("why below the limit, 4 ahead of 5", sold.why(0, 0, 2, 0), 4);
        });
    }

    /** The player 2 holds a bite that the player 0 had, who came home since. */
    private static SnakeTrades heldByOneAtHome() {
        SnakeTrades race = standing(54, 48, 48, 48);
        race.snake(55, 49);
        throwAll(race, "111");
        race.sell(0, 0, 2, 2);
        throwAll(race, "15");
        due("player(0, 5)", race.player(0, 5), 1);
        due("bite(2, 0, 3)", race.bite(2, 0, 3), 5);
        return race;
    }
}
