import java.util.function.IntUnaryOperator;

/** What the tests have in common: the document's codes and settings, and races that have come to some point. */
abstract class Races {
    static final int NO_SUCH = -1;
    static final int BAD_VALUE = -2;
    static final int TOO_MANY = -3;
    static final int NOT_POSSIBLE = -4;
    static final int NONE = -5;
    static final int SLEEP = 0;
    static final int LIMIT = 1;
    static final int TRADES = 2;

    static void due(String call, long got, long want) {
        Checks.due(call, got, want);
    }

    static void throwAll(SnakeTrades race, String dice) {
        for (char sign : dice.toCharArray()) {
            race.turn(sign - '0');
        }
    }

    static void write(SnakeTrades race, String text) {
        race.clearText();
        for (char sign : text.toCharArray()) {
            race.append(sign);
        }
    }

    /** A race in which the player 0 holds a bite of the size 7, and the player 1 is to throw. */
    static SnakeTrades withBite() {
        SnakeTrades race = new SnakeTrades();
        race.snake(9, 2);
        throwAll(race, "63333");
        return race;
    }

    /** A race in which the player 0 came home, and the players 1 to 3 stand on the square 54. */
    static SnakeTrades withOneHome() {
        SnakeTrades race = standing(54, 54, 54, 54);
        race.turn(6);
        return race;
    }

    static SnakeTrades over() {
        SnakeTrades race = withOneHome();
        throwAll(race, "666");
        return race;
    }

    /** A race in which each player but the player 3 is home, who stands on the square. */
    static SnakeTrades alone(int square) {
        SnakeTrades race = standing(54, 54, 54, square);
        throwAll(race, "666");
        return race;
    }

    /** The race is hard to end: only a 1 leads from the square 59 home, and each other square near it to a bite. */
    static SnakeTrades steep() {
        SnakeTrades race = new SnakeTrades();
        race.set(SLEEP, 0);
        for (int head = 50; head < 60; head++) {
            race.snake(head, head - 40);
        }
        return race;
    }

    /**
     * A race without snakes, in which the pieces stand on these squares, and the player 0 is to throw. All
     * squares have to be such that each piece comes there in as many turns as the foremost one needs.
     */
    static SnakeTrades standing(int... squares) {
        int foremost = 0;
        for (int square : squares) {
            foremost = Math.max(foremost, square);
        }
        SnakeTrades race = new SnakeTrades();
        for (int rounds = (foremost + 5) / 6; rounds > 0; rounds--) {
            for (int player = 0; player < 4; player++) {
                race.turn(Math.min(6, squares[player] - race.player(player, 0) - (rounds - 1)));
            }
        }
        for (int player = 0; player < 4; player++) {
            if (race.player(player, 0) != squares[player]) {
                throw new IllegalArgumentException("no such race: " + squares[player]);
            }
        }
        return race;
    }

    /** The piece comes to the head of a new snake, which bites and goes away again. */
    static void beBitten(SnakeTrades race, int size) {
        int begin = race.player(race.count(1), 4);
        int dice = 1;
        while (dice < 6 && race.square(begin + dice, 0) > 0) {
            dice++;
        }
        int snake = race.snake(begin + dice, begin + dice - size);
        race.turn(dice);
        race.charm(snake, 10);
    }

    /** The x that play draws from this one. */
    static int drawn(int x) {
        return (int) ((25173L * x + 13849) % 65536);
    }

    /** All that the queries tell of the state. */
    static String told(SnakeTrades race) {
        StringBuilder told = new StringBuilder();
        for (int what = 0; what <= 10; what++) {
            told.append(race.count(what)).append(' ');
        }
        for (int player = 0; player < 4; player++) {
            for (int what = 0; what < 8; what++) {
                told.append(race.player(player, what)).append(' ');
            }
            for (int bite = 0; bite < race.player(player, 2); bite++) {
                for (int what = 0; what < 4; what++) {
                    told.append(race.bite(player, bite, what)).append(' ');
                }
            }
        }
        for (int snake = 0; snake < 10; snake++) {
            for (int what = 0; what < 4; what++) {
                told.append(race.snakeOf(snake, what)).append(' ');
            }
        }
        return told.toString();
    }

    /** The code is due for each value that is below the range, above it, or far away from it. */
    static void wrongDue(String call, int least, int highest, IntUnaryOperator method, int code) {
        int[] wrongs = {least - 1, highest + 1, least - 65536, highest + 65536, least - 1000, highest + 1000,
            Integer.MIN_VALUE, Integer.MAX_VALUE, Integer.MIN_VALUE + highest + 1, Integer.MAX_VALUE - highest - 1};
        for (int wrong : wrongs) {
            due(call.replace("?", "" + wrong), method.applyAsInt(wrong), code);
        }
    }
}
