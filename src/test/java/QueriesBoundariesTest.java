import java.io.IOException;

/** Each sentence of the promises 15 to 25 that names a boundary case, with a test of its own. */
public final class QueriesBoundariesTest extends Races {
    private static final int FIRST_PROMISE = 15;
    private static final int LAST_PROMISE = 25;

    private final Document document;

    private QueriesBoundariesTest(Document document) {
        this.document = document;
    }

    public static void main(String[] arguments) throws IOException {
        checkAll(new Document());
        Checks.end("QueriesBoundariesTest");
    }

    static void checkAll(Document document) {
        QueriesBoundariesTest test = new QueriesBoundariesTest(document);
        test.playerNumbers();
        test.playerBites();
        test.playerCodes();
        test.bite();
        test.snakeOf();
        test.square();
        test.countTurns();
        test.countTrades();
        test.why();
        test.cheapest();
        test.cheapestCoins();
        test.dangers();
        test.dangersCodes();
        test.fewest();
        test.fewestCodes();
        test.nextHome();
        test.nextHomeCodes();
        test.progress();
        for (int promise = FIRST_PROMISE; promise <= LAST_PROMISE; promise++) {
            test.document.nothingLeftOut("Promise " + promise);
        }
    }

    // ---- 15 and 16: players and bites

    private void playerNumbers() {
        document.section("Promise 15");
        document.sentence("0 for the square of the piece, 1 for the coins, plus 1000", () -> {
            due("player(0, 0) at first", new SnakeTrades().player(0, 0), 0);
            due("player(3, 0) at home", over().player(3, 0), 60);
            SnakeTrades race = withBite();
            race.set(LIMIT, 50);
            race.sell(0, 0, 1, 60);
            due("player(0, 1) in the deepest debt", race.player(0, 1), 950);
            due("player(1, 1)", race.player(1, 1), 1070);
        });
        document.sentence("4 for the square on which the next turn of the player begins, when its bites have hurt",
            () -> {
                SnakeTrades race = withBite();
                due("player(0, 4), bitten", race.player(0, 4), 2);
                due("player(0, 0), bitten", race.player(0, 0), 9);
                race.sell(0, 0, 1, 3);
                due("player(0, 4), sold", race.player(0, 4), 9);
                due("player(1, 4), not farther than 0", race.player(1, 4), 0);
                due("player(2, 4), without bites", race.player(2, 4), 3);
                due("player(0, 4) at home", over().player(0, 4), 60);
            });
        document.sentence("5 for the place (1 for the player who came to the square 60 first, and so on; NONE if the"
            + " player is in the race)", () -> {
                SnakeTrades race = standing(48, 54, 48, 54);
                int[][] places = {{NONE, NONE, NONE, NONE}, {NONE, NONE, NONE, 1}, {NONE, 2, NONE, 1}, {NONE, 2, 3, 1},
                    {4, 2, 3, 1}};
                String[] throwsToHome = {"", "6566", "51", "6", "1"};
                for (int home = 0; home <= 4; home++) {
                    throwAll(race, throwsToHome[home]);
                    for (int player = 0; player < 4; player++) {
                        due("player(" + player + ", 5), home " + home, race.player(player, 5), places[home][player]);
                    }
                }
                race.undo();
                due("player(0, 5) after undo", race.player(0, 5), NONE);
                race.turn(1);
                due("player(0, 5) again", race.player(0, 5), 4);
            });
    }

    private void playerBites() {
        document.section("Promise 15");
        document.sentence("2 for the number of bites that the player holds, 3 for the sum of their sizes", () -> {
            SnakeTrades race = standing(41, 41, 41, 41);
            due("player(3, 2), none", race.player(3, 2), 0);
            due("player(3, 3), none", race.player(3, 3), 0);
            for (int seller = 0; seller < 3; seller++) {
                beBitten(race, 40);
                race.sell(seller, 0, 3, 14 + 2 * seller);
                due("player(3, 2)", race.player(3, 2), seller + 1);
                due("player(3, 3)", race.player(3, 3), 40 * (seller + 1));
                due("player(seller, 2)", race.player(seller, 2), 0);
                due("player(seller, 3)", race.player(seller, 3), 0);
            }
        });
        document.sentence("6 for how often the player was bitten so far, 7 for how many squares bites have moved the"
            + " piece back so far", () -> {
                SnakeTrades race = withBite();
                due("player(0, 6)", race.player(0, 6), 1);
                due("player(0, 7), it has not hurt yet", race.player(0, 7), 0);
                race.sell(0, 0, 1, 3);
                due("player(0, 6), sold", race.player(0, 6), 1);
                due("player(1, 6), bought", race.player(1, 6), 0);
                race.turn(1);
                due("player(1, 7), from 3 to 0", race.player(1, 7), 3);
                throwAll(race, "66");
                due("player(0, 7), sold ahead of it", race.player(0, 7), 0);
                beBitten(race, 9);
                due("player(0, 6), twice", race.player(0, 6), 2);
                throwAll(race, "1111");
                due("player(0, 7), from 10 to 1", race.player(0, 7), 9);
                throwAll(race, "111611111111");
                due("player(0, 6), three times", race.player(0, 6), 3);
                due("player(0, 7), from 9 to 2, too", race.player(0, 7), 9 + 7);
            });
    }

    private void playerCodes() {
        document.section("Promise 15");
        document.sentence("- `player`: 0 to 3", () -> {
            SnakeTrades race = standing(1, 2, 3, 4);
            due("player(0, 0)", race.player(0, 0), 1);
            due("player(3, 0)", race.player(3, 0), 4);
        });
        document.sentence("NO_SUCH if there is no such player", () -> {
            SnakeTrades race = withBite();
            for (int what = 0; what < 8; what++) {
                int asked = what;
                wrongDue("player(?, " + what + ")", 0, 3, player -> race.player(player, asked), NO_SUCH);
            }
        });
        document.sentence("BAD_VALUE if what is out of range",
            () -> wrongDue("player(0, ?)", 0, 7, what -> withBite().player(0, what), BAD_VALUE));
    }

    private void bite() {
        document.section("Promise 16");
        document.sentence("- `player`: 0 to 3", () -> {
            SnakeTrades race = withBite();
            due("bite(0, 0, 0)", race.bite(0, 0, 0), 7);
            race.sell(0, 0, 3, 3);
            due("bite(3, 0, 0)", race.bite(3, 0, 0), 7);
        });
        document.sentence("- `bite`: index of a bite of the player, from 0", () -> {
            SnakeTrades race = standing(40, 40, 40, 40);
            for (int seller = 0; seller < 3; seller++) {
                beBitten(race, 10 + seller);
                race.sell(seller, 0, 3, 10);
                for (int bite = 0; bite <= seller; bite++) {
                    due("bite(3, " + bite + ", 0)", race.bite(3, bite, 0), 10 + bite);
                }
                due("bite beyond the last one", race.bite(3, seller + 1, 0), NO_SUCH);
            }
        });
        document.sentence("0 for its size, 1 for how often it has been sold, 2 for the player who was bitten, 3 for all"
            + " players who have held it so far", () -> {
                SnakeTrades race = withBite();
                race.set(TRADES, 3);
                int[] masks = {1, 9, 13, 15};
                int[] holders = {0, 3, 2, 1};
                for (int sold = 0; sold < 4; sold++) {
                    int holder = holders[sold];
                    int[] numbers = {7, sold, 0, masks[sold]};
                    for (int what = 0; what < 4; what++) {
                        due("bite(" + holder + ", 0, " + what + ")", race.bite(holder, 0, what), numbers[what]);
                    }
                    race.sell(holder, 0, sold < 3 ? holders[sold + 1] : 0, 3);
                }
            });
        document.sentence("NO_SUCH if there is no such player or bite", () -> {
            SnakeTrades race = withBite();
            due("bite(1, 0, 0), none", race.bite(1, 0, 0), NO_SUCH);
            wrongDue("bite(?, 0, 0)", 0, 3, player -> race.bite(player, 0, 0), NO_SUCH);
            wrongDue("bite(0, ?, 0)", 0, 0, bite -> race.bite(0, bite, 0), NO_SUCH);
            throwAll(race, "111");
            race.turn(1);
            due("bite(0, 0, 0), it has hurt", race.bite(0, 0, 0), NO_SUCH);
        });
        document.sentence("BAD_VALUE if what is out of range",
            () -> wrongDue("bite(0, 0, ?)", 0, 3, what -> withBite().bite(0, 0, what), BAD_VALUE));
    }

    // ---- 17 to 19: snakes, squares, numbers

    private void snakeOf() {
        document.section("Promise 17");
        document.sentence("0 for its head, 1 for its tail, 2 for its sleep, 3 for how often it has bitten so far",
            () -> {
                SnakeTrades race = new SnakeTrades();
                race.snake(59, 53);
                race.snake(7, 1);
                int[][] numbers = {{59, 53, 0, 0}, {7, 1, 0, 0}};
                for (int snake = 0; snake < 2; snake++) {
                    for (int what = 0; what < 4; what++) {
                        due("snakeOf(" + snake + ", " + what + ")", race.snakeOf(snake, what), numbers[snake][what]);
                    }
                }
                race.set(SLEEP, 9);
                throwAll(race, "66661");
                due("snakeOf(1, 2), it has bitten", race.snakeOf(1, 2), 9);
                due("snakeOf(1, 3), it has bitten", race.snakeOf(1, 3), 1);
                race.charm(1, 9);
                due("snakeOf(1, 2), charmed", race.snakeOf(1, 2), 18);
                race.charm(1, 10);
                race.snake(7, 1);
                due("snakeOf(1, 2), a new one", race.snakeOf(1, 2), 0);
                due("snakeOf(1, 3), a new one", race.snakeOf(1, 3), 0);
            });
        document.sentence("NO_SUCH if there is no such snake", () -> {
            due("snakeOf(0, 0), none", new SnakeTrades().snakeOf(0, 0), NO_SUCH);
            SnakeTrades race = steep();
            due("snakeOf(0, 0)", race.snakeOf(0, 0), 50);
            due("snakeOf(9, 0)", race.snakeOf(9, 0), 59);
            wrongDue("snakeOf(?, 0)", 0, 9, snake -> race.snakeOf(snake, 0), NO_SUCH);
            race.charm(5, 10);
            due("snakeOf(5, 0), gone", race.snakeOf(5, 0), NO_SUCH);
            due("snakeOf(6, 0)", race.snakeOf(6, 0), 56);
        });
        document.sentence("BAD_VALUE if what is out of range",
            () -> wrongDue("snakeOf(0, ?)", 0, 3, what -> steep().snakeOf(0, what), BAD_VALUE));
    }

    private void square() {
        document.section("Promise 18");
        document.sentence("- `square`: 0 to 60", () -> {
            due("square(0, 0)", new SnakeTrades().square(0, 0), 15);
            due("square(60, 0)", withOneHome().square(60, 0), 1);
            due("square(60, 1)", steep().square(60, 1), NONE);
            due("square(60, 2)", steep().square(60, 2), 0);
        });
        document.sentence("0 for the pieces on it (as a bit mask in which bit p stands for the player p), 1 for the"
            + " snake whose head is on it (NONE if there is none), 2 for the number of tails on it", () -> {
                SnakeTrades race = new SnakeTrades();
                for (int snake = 0; snake < 10; snake++) {
                    due("square(1, 2)", race.square(1, 2), snake);
                    race.snake(7 + snake, 1);
                }
                due("square(1, 2), all tails", race.square(1, 2), 10);
                due("square(7, 2)", race.square(7, 2), 0);
                due("square(7, 1), the first snake", race.square(7, 1), 0);
                due("square(16, 1), the last snake", race.square(16, 1), 9);
                due("square(6, 1)", race.square(6, 1), NONE);
                due("square(17, 1)", race.square(17, 1), NONE);
                due("square(1, 1), only tails", race.square(1, 1), NONE);
                int[] masks = {15, 14, 12, 8, 0};
                for (int moved = 0; moved <= 4; moved++) {
                    due("square(0, 0)", race.square(0, 0), masks[moved]);
                    due("square(2, 0)", race.square(2, 0), 15 - masks[moved]);
                    race.turn(2);
                }
            });
        document.sentence("BAD_VALUE if an argument is out of range", () -> {
            SnakeTrades race = steep();
            for (int what = 0; what < 3; what++) {
                int asked = what;
                wrongDue("square(?, " + what + ")", 0, 60, square -> race.square(square, asked), BAD_VALUE);
            }
            wrongDue("square(0, ?)", 0, 2, what -> race.square(0, what), BAD_VALUE);
            wrongDue("square(60, ?)", 0, 2, what -> race.square(60, what), BAD_VALUE);
        });
    }

    private void countTurns() {
        document.section("Promise 19");
        document.sentence("0 for turns so far, 1 for the player whose turn it is (NONE if the race is over), 2 for"
            + " players in the race, 3 for snakes", () -> {
                SnakeTrades race = withOneHome();
                int[] turns = {37, 38, 39, 40};
                int[] mover = {1, 2, 3, NONE};
                for (int home = 1; home <= 4; home++) {
                    due("count(0), home " + home, race.count(0), turns[home - 1]);
                    due("count(1), home " + home, race.count(1), mover[home - 1]);
                    due("count(2), home " + home, race.count(2), 4 - home);
                    race.turn(6);
                }
                for (int snakes = 0; snakes <= 10; snakes++) {
                    due("count(3)", race.count(3), snakes);
                    race.snake(20 + snakes, 10);
                }
                due("count(3), one was too many", race.count(3), 10);
                race.charm(3, 10);
                due("count(3), one is gone", race.count(3), 9);
            });
        document.sentence("BAD_VALUE if what is out of range",
            () -> wrongDue("count(?)", 0, 12, what -> withBite().count(what), BAD_VALUE));
    }

    private void countTrades() {
        document.section("Promise 19");
        document.sentence("4 for bites that are held, 5 for bites so far, 6 for sales so far, 7 for the sum of the coins"
            + " of all players, 8 to 10 for the settings, 11 for states in the history, 12 for the length of the text",
            () -> {
                SnakeTrades race = new SnakeTrades();
                countsDue("at first", race, 0, 0, 0, 40, 2, 20, 2, 0, 0);
                race.snake(9, 2);
                throwAll(race, "63333");
                countsDue("bitten", race, 1, 1, 0, 40, 2, 20, 2, 5, 0);
                race.set(SLEEP, 0);
                race.set(LIMIT, 50);
                race.set(TRADES, 3);
                race.sell(0, 0, 1, 60);
                write(race, "6".repeat(60));
                countsDue("sold into debt", race, 1, 1, 1, 40, 0, 50, 3, 5, 60);
                race.turn(6);
                countsDue("hurt", race, 0, 1, 1, 40, 0, 50, 3, 5, 60);
                race.undo();
                race.undo();
                countsDue("undone", race, 1, 1, 0, 40, 0, 50, 3, 3, 60);
            });
    }

    private static void countsDue(String what, SnakeTrades race, int... fromFour) {
        for (int i = 0; i < fromFour.length; i++) {
            due("count(" + (4 + i) + "), " + what, race.count(4 + i), fromFour[i]);
        }
    }

    // ---- 20 and 21: trades

    private void why() {
        document.section("Promise 20");
        document.sentence("- `seller`: 0 to 3", () -> {
            SnakeTrades race = withBite();
            wrongDue("why(?, 0, 1, 3)", 0, 3, seller -> race.why(seller, 0, 1, 3), NO_SUCH);
            race.sell(0, 0, 3, 3);
            due("why(3, 0, 1, 3)", race.why(3, 0, 1, 3), 0);
        });
        document.sentence("- `bite`: index of a bite of the seller, from 0", () -> {
            SnakeTrades race = withBite();
            due("why(0, 0, 1, 3)", race.why(0, 0, 1, 3), 0);
            wrongDue("why(0, ?, 1, 3)", 0, 0, bite -> race.why(0, bite, 1, 3), NO_SUCH);
        });
        document.sentence("- `buyer`: 0 to 3", () -> {
            SnakeTrades race = withBite();
            wrongDue("why(0, 0, ?, 3)", 0, 3, buyer -> race.why(0, 0, buyer, 3), NO_SUCH);
            due("why(0, 0, 3, 3)", race.why(0, 0, 3, 3), 0);
        });
        document.sentence("- `coins`: 0 to 99", () -> {
            SnakeTrades race = withBite();
            due("why(0, 0, 1, 0)", race.why(0, 0, 1, 0), 5);
            due("why(0, 0, 1, 99)", race.why(0, 0, 1, 99), 4);
            wrongDue("why(0, 0, 1, ?)", 0, 99, coins -> race.why(0, 0, 1, coins), BAD_VALUE);
        });
        document.sentence("Returns the reason, 1 to 5; 0 if it would not; NO_SUCH and BAD_VALUE as for sell.", () -> {
            for (int seller = -1; seller <= 4; seller++) {
                for (int buyer = -1; buyer <= 4; buyer++) {
                    for (int bite = -1; bite <= 2; bite++) {
                        for (int coins : new int[] {-1, 0, 3, 4, 12, 13, 29, 30, 31, 99, 100}) {
                            whyAsSell(seller, bite, buyer, coins);
                        }
                    }
                }
            }
        });
    }

    private static void whyAsSell(int seller, int bite, int buyer, int coins) {
        for (int trades = 1; trades < 3; trades++) {
            SnakeTrades race = standing(48, 49, 48, 54);
            throwAll(race, "1116");
            race.snake(50, 42);
            race.snake(53, 46);
            throwAll(race, "13");
            race.sell(1, 0, 2, 3);
            race.set(TRADES, trades);
            int why = race.why(seller, bite, buyer, coins);
            int sold = race.sell(seller, bite, buyer, coins);
            due("sell(" + seller + ", " + bite + ", " + buyer + ", " + coins + ") as why tells", sold > 0 ? 0 : sold,
                why > 0 ? -10 - why : why);
        }
    }

    private void cheapest() {
        document.section("Promise 21");
        document.sentence("of several buyers with as few coins the one with the lowest number", () -> {
            due("cheapest(0, 0), as many coins for 1, 2 and 3", withBite().cheapest(0, 0), 103);
            SnakeTrades race = standing(7, 7, 7, 7);
            race.snake(13, 7);
            race.snake(12, 4);
            race.snake(11, 5);
            throwAll(race, "65");
            due("cheapest(0, 0), 1 holds a bite", race.cheapest(0, 0), 202);
            due("cheapest(1, 0), 0 holds a bite", race.cheapest(1, 0), 203);
            race.turn(4);
            due("cheapest(0, 0), 1 and 2 hold bites", race.cheapest(0, 0), 302);
            race.sell(0, 0, 3, 2);
            due("cheapest(1, 0), 2 and 3 hold bites", race.cheapest(1, 0), 3);
            race.sell(2, 0, 0, 2);
            race.sell(1, 0, 0, 5);
            due("cheapest(0, 1), 2 holds none", race.cheapest(0, 1), 203);
            due("cheapest(0, 0), back to none", race.cheapest(0, 0), 102);
        });
        document.sentence("NO_SUCH if there is no such player or bite", () -> {
            SnakeTrades race = withBite();
            wrongDue("cheapest(?, 0)", 0, 3, seller -> race.cheapest(seller, 0), NO_SUCH);
            wrongDue("cheapest(0, ?)", 0, 0, bite -> race.cheapest(0, bite), NO_SUCH);
            due("cheapest(1, 0), none", race.cheapest(1, 0), NO_SUCH);
        });
        document.sentence("- `seller`: 0 to 3", () -> {
            SnakeTrades race = withBite();
            race.sell(0, 0, 3, 3);
            due("cheapest(3, 0)", race.cheapest(3, 0), 103);
        });
        document.sentence("- `bite`: index of a bite of the seller, from 0", () -> {
            SnakeTrades race = standing(40, 40, 40, 40);
            beBitten(race, 40);
            beBitten(race, 6);
            race.sell(1, 0, 0, 10);
            due("cheapest(0, 0)", race.cheapest(0, 0), 114);
            due("cheapest(0, 1)", race.cheapest(0, 1), 202);
            due("cheapest(0, 2)", race.cheapest(0, 2), NO_SUCH);
        });
    }

    private void cheapestCoins() {
        document.section("Promise 21");
        document.sentence("Finds the buyer to whom a bite could be sold with the fewest coins.", () -> {
            SnakeTrades race = withBite();
            int found = race.cheapest(0, 0);
            due("why with as many coins", race.why(0, 0, found / 100, found % 100), 0);
            due("why with a coin less", race.why(0, 0, found / 100, found % 100 - 1), 5);
            due("count(6), nothing is sold", race.count(6), 0);
        });
        document.sentence("NONE if there is none", () -> {
            SnakeTrades race = withBite();
            race.sell(0, 0, 1, 3);
            due("cheapest(1, 0), sold once", race.cheapest(1, 0), 203);
            race.sell(1, 0, 2, 3);
            due("cheapest(2, 0), sold twice", race.cheapest(2, 0), NONE);
            race.set(TRADES, 3);
            due("cheapest(2, 0), sold twice of three times", race.cheapest(2, 0), 303);
            race.sell(2, 0, 3, 3);
            due("cheapest(3, 0), all have held it", race.cheapest(3, 0), NONE);
            for (int paid = 27; paid <= 28; paid++) {
                SnakeTrades poor = standing(40, 40, 40, 40);
                beBitten(poor, 6);
                poor.sell(0, 0, 1, paid);
                throwAll(poor, "111");
                beBitten(poor, 7);
                due("cheapest(0, 0) after " + paid + " coins", poor.cheapest(0, 0), paid == 27 ? 103 : NONE);
            }
            SnakeTrades last = alone(53);
            last.snake(59, 53);
            last.turn(6);
            due("cheapest(3, 0), nobody else is in the race", last.cheapest(3, 0), NONE);
        });
    }

    // ---- 22 and 23: throws

    private void dangers() {
        document.section("Promise 22");
        document.sentence("with which throws a player would be bitten in the next turn of this player, if nothing else"
            + " happens until then (sleeps become no less).", () -> {
                SnakeTrades race = standing(20, 20, 20, 20);
                race.snake(21, 10);
                race.snake(26, 10);
                due("dangers(0)", race.dangers(0), 1 << 1 | 1 << 6);
                race.charm(1, 1);
                due("dangers(3), asleep until the first turn", race.dangers(3), 1 << 1);
                race.turn(6);
                due("dangers(3), another piece is there", race.dangers(3), 1 << 1);
                due("dangers(0), of the own next turn", race.dangers(0), 0);
                throwAll(race, "222");
                race.turn(1);
                due("dangers(1), the sleep is over", race.dangers(1), 1 << 4);
                SnakeTrades bitten = withBite();
                bitten.charm(0, 10);
                bitten.snake(8, 1);
                bitten.snake(9, 1);
                bitten.snake(10, 1);
                due("dangers(0), the bite hurts first", bitten.dangers(0), 1 << 6);
                bitten.sell(0, 0, 3, 3);
                due("dangers(0), the bite is sold", bitten.dangers(0), 1 << 1);
                due("dangers(3), the bite is bought", bitten.dangers(3), 0);
            });
        document.sentence("Returns the throws, as a bit mask in which bit k stands for the throw k", () -> {
            SnakeTrades race = standing(20, 20, 20, 20);
            due("dangers(0), none", race.dangers(0), 0);
            int mask = 0;
            for (int dice = 6; dice > 0; dice--) {
                race.snake(20 + dice, 10);
                mask += 1 << dice;
                due("dangers(0), from " + dice + " on", race.dangers(0), mask);
            }
            race.snake(27, 10);
            race.snake(20, 10);
            due("dangers(0), farther and on the own square", race.dangers(0), 126);
        });
    }

    private void dangersCodes() {
        document.section("Promise 22");
        document.sentence("- `player`: 0 to 3", () -> {
            SnakeTrades race = alone(59);
            race.snake(59, 40);
            race.snake(58, 40);
            race.snake(55, 40);
            due("dangers(3), backwards, and to the own square", race.dangers(3), 1 << 2 | 1 << 3 | 1 << 6);
            race.snake(54, 40);
            due("dangers(3), farther back than with a 6", race.dangers(3), 1 << 2 | 1 << 3 | 1 << 6);
            SnakeTrades first = new SnakeTrades();
            first.snake(7, 1);
            throwAll(first, "6321");
            due("dangers(0)", first.dangers(0), 1 << 1);
            due("dangers(1)", first.dangers(1), 1 << 4);
            due("dangers(2)", first.dangers(2), 1 << 5);
            due("dangers(3)", first.dangers(3), 1 << 6);
        });
        document.sentence("NO_SUCH if there is no such player",
            () -> wrongDue("dangers(?)", 0, 3, player -> withBite().dangers(player), NO_SUCH));
        document.sentence("NOT_POSSIBLE if the player is not in the race.", () -> {
            SnakeTrades race = withOneHome();
            race.snake(59, 40);
            due("dangers(0), home", race.dangers(0), NOT_POSSIBLE);
            due("dangers(1), in the race", race.dangers(1), 1 << 5);
            race.turn(5);
            due("dangers(1) on 59", race.dangers(1), 0);
            due("dangers(3), the race is over", over().dangers(3), NOT_POSSIBLE);
        });
    }

    private void fewest() {
        document.section("Promise 23");
        document.sentence("if there were no other pieces, each snake bit always, and no bite were sold. (The bites that"
            + " the player holds hurt first.)", () -> {
                SnakeTrades race = standing(48, 50, 50, 50);
                bothDue("from 48", race, 0, 2);
                race.snake(54, 40);
                bothDue("from 48, past a snake", race, 0, 3);
                race.charm(0, 9);
                bothDue("from 48, the snake sleeps", race, 0, 3);
                throwAll(race, "144");
                bothDue("from 54, on a sleeping snake's head", race, 1, 1);
                race.charm(0, 10);
                race.snake(54, 40);
                bothDue("from 49, pieces are there", race, 0, 2);
                SnakeTrades bitten = standing(48, 48, 48, 48);
                bitten.snake(54, 48);
                bitten.turn(6);
                bothDue("from 54 with a bite of 6", bitten, 0, 3);
                bitten.sell(0, 0, 1, 2);
                bothDue("from 54", bitten, 0, 1);
                bothDue("from 48 with a bite of 6", bitten, 1, 4);
            });
        document.sentence("- `way`: 0: told from the square of the player on; 1: told from the square 60 back", () -> {
            bothDue("from 0", new SnakeTrades(), 0, 10);
            for (int square = 1; square < 7; square++) {
                bothDue("from " + square, standing(square, 1, 1, 1), 0, square < 6 ? 10 : 9);
            }
            for (int square = 10; square < 60; square++) {
                bothDue("from " + square, alone(square), 3, (60 - square + 5) / 6);
            }
            SnakeTrades back = alone(55);
            back.snake(59, 53);
            bothDue("from 55", back, 3, 1);
            SnakeTrades around = alone(20);
            for (int head = 21; head < 26; head++) {
                around.snake(head, 10);
            }
            bothDue("from 20, only a 6 leads on", around, 3, 7);
            around.snake(26, 11);
            bothDue("from 20, no throw leads on", around, 3, NONE);
        });
    }

    private static void bothDue(String what, SnakeTrades race, int player, int due) {
        due("fewest(" + player + ", 0), " + what, race.fewest(player, 0), due);
        due("fewest(" + player + ", 1), " + what, race.fewest(player, 1), due);
    }

    private void fewestCodes() {
        document.section("Promise 23");
        document.sentence("- `player`: 0 to 3", () -> {
            SnakeTrades race = standing(30, 35, 40, 42);
            int[] throwsHome = {5, 5, 4, 3};
            for (int player : new int[] {0, 1, 2, 3, 2, 1, 0}) {
                bothDue("of " + player, race, player, throwsHome[player]);
            }
        });
        document.sentence("Returns the number of throws (the same for both), 0 if the player is not in the race any"
            + " more", () -> {
                SnakeTrades race = withOneHome();
                bothDue("home", race, 0, 0);
                race.turn(5);
                bothDue("on 59", race, 1, 1);
                bothDue("the race is over", over(), 3, 0);
            });
        document.sentence("NO_SUCH if there is no such player", () -> {
            wrongDue("fewest(?, 0)", 0, 3, player -> withBite().fewest(player, 0), NO_SUCH);
            wrongDue("fewest(?, 1)", 0, 3, player -> withBite().fewest(player, 1), NO_SUCH);
        });
        document.sentence("BAD_VALUE if way is neither", () -> {
            wrongDue("fewest(0, ?)", 0, 1, way -> withBite().fewest(0, way), BAD_VALUE);
            wrongDue("fewest(0, ?), home", 0, 1, way -> over().fewest(0, way), BAD_VALUE);
        });
        document.sentence("NONE if the player could never come there.", () -> {
            SnakeTrades race = standing(53, 54, 54, 54);
            for (int head = 54; head < 60; head++) {
                bothDue("from 53, a way is left", race, 0, 2);
                race.snake(head, 40);
            }
            bothDue("from 53, each square next to 60 has a head", race, 0, NONE);
            bothDue("from 54, on such a head", race, 1, 1);
            race.charm(0, 10);
            bothDue("from 53, 54 is free", race, 0, 2);
        });
    }

    // ---- 24 and 25

    private void nextHome() {
        document.section("Promise 24");
        document.sentence("Tells who would be first, if turns were made as play does (at most 200, without trades).",
            () -> {
                due("nextHome(4331), home in the turn 200", steep().nextHome(4331), 3);
                due("turns for 4331", turnsUntilHome(4331), 200);
                due("nextHome(13919), home in the turn 201", steep().nextHome(13919), NONE);
                due("turns for 13919", turnsUntilHome(13919), 201);
            });
        document.sentence("Returns the next player who would come to the square 60", () -> {
            for (int x = 0; x < 65536; x += 1111) {
                SnakeTrades race = withOneHome();
                int told = race.nextHome(x);
                String before = told(race);
                race.play(x, 50);
                due("player(told, 5), x " + x, race.player(told, 5), 2);
                race.undo();
                Checks.holds("nothing is changed", told(race).equals(before));
                due("count(11)", race.count(11), 4);
            }
        });
    }

    /** How many turns are made until the first player is home. */
    private static int turnsUntilHome(int seed) {
        SnakeTrades race = steep();
        int x = seed;
        while (race.count(2) == 4 && race.count(0) < 205) {
            x = drawn(x);
            race.turn(1 + x / 10923);
        }
        return race.count(0);
    }

    private void nextHomeCodes() {
        document.section("Promise 24");
        document.sentence("- `x`: 0 to 65535", () -> {
            due("nextHome(0), alone", alone(54).nextHome(0), 3);
            due("nextHome(65535), alone", alone(54).nextHome(65535), 3);
        });
        document.sentence("BAD_VALUE if x is out of range", () -> {
            SnakeTrades race = alone(54);
            wrongDue("nextHome(?)", 0, 65535, race::nextHome, BAD_VALUE);
        });
        document.sentence("NOT_POSSIBLE if the race is over", () -> {
            due("nextHome(0)", over().nextHome(0), NOT_POSSIBLE);
            due("nextHome(65535)", over().nextHome(65535), NOT_POSSIBLE);
        });
        document.sentence("NONE if nobody does in these turns.", () -> {
            SnakeTrades race = standing(53, 53, 53, 53);
            race.set(SLEEP, 0);
            for (int head = 54; head < 60; head++) {
                race.snake(head, 19);
            }
            throwAll(race, "1234");
            int nobody = 0;
            for (int x = 0; x < 100; x++) {
                nobody += race.nextHome(x) == NONE ? 1 : 0;
            }
            Checks.holds("nobody comes home for some x: " + nobody, nobody > 0);
        });
    }

    private void progress() {
        document.section("Promise 25");
        document.sentence("- `player`: 0 to 3", () -> {
            SnakeTrades race = standing(15, 12, 18, 13);
            double[] due = {0.25, 0.2, 0.3, 13 / 60.0};
            for (int player = 0; player < 4; player++) {
                Checks.due("progress(" + player + ")", race.progress(player), due[player]);
            }
        });
        document.sentence("Returns the square on which the next turn of the player begins (the square 60 if the player"
            + " is not in the race), as a double, divided by 60", () -> {
                SnakeTrades race = withBite();
                Checks.due("progress(0), the bite hurts first", race.progress(0), 2 / 60.0);
                race.sell(0, 0, 1, 3);
                Checks.due("progress(0), sold", race.progress(0), 9 / 60.0);
                Checks.due("progress(1), back to 0", race.progress(1), 0.0);
                SnakeTrades late = alone(59);
                Checks.due("progress(3) on 59", late.progress(3), 59 / 60.0);
                Checks.due("progress(0), home", late.progress(0), 1.0);
                Checks.due("progress(3), the race is over", over().progress(3), 1.0);
            });
        document.sentence("0.0 if there is no such player", () -> {
            SnakeTrades race = over();
            for (int player : new int[] {-1, 4, -5, 1000, Integer.MIN_VALUE, Integer.MAX_VALUE}) {
                Checks.due("progress(" + player + ")", race.progress(player), 0.0);
            }
        });
    }
}
