import java.util.Random;

/** Random runs of calls, on the class and on the model of the document; all answers have to be the same. */
public final class ModelTest {
    private static final int RUNS = 3000;
    private static final int CALLS = 512;

    private final Random random;
    private final SnakeTrades race = new SnakeTrades();
    private final Model model = new Model();
    private final int strangeness;
    private final int firstHead;
    private final int run;
    /** In a steered run, pieces come to the heads of snakes and bites are sold where they can be. */
    private final boolean steered;
    private int calls = 0;

    private ModelTest(int run) {
        this.run = run;
        random = new Random(run);
        strangeness = new int[] {0, 5, 30}[run % 3];
        firstHead = 7 + random.nextInt(44);
        steered = run % 4 == 0;
    }

    public static void main(String[] arguments) {
        for (int run = 0; run < RUNS && !Checks.anyWrong(); run++) {
            ModelTest test = new ModelTest(run);
            while (test.calls < CALLS) {
                test.step();
            }
        }
        for (int buyer = 0; buyer < 4; buyer++) {
            new ModelTest(0).collectBites(buyer, false);
            new ModelTest(0).collectBites(buyer, true);
        }
        Checks.end("ModelTest");
    }

    /**
     * Each piece is bitten in each turn, and each bite is sold to the player who has just made a turn when it is
     * about to hurt; so there are as many bites at once as there can be. Or they go to one hand at the end.
     */
    private void collectBites(int buyer, boolean inOneHand) {
        due("set(0, 0)", race.set(0, 0), model.set(0, 0));
        due("set(1, 50)", race.set(1, 50), model.set(1, 50));
        due("set(2, 3)", race.set(2, 3), model.set(2, 3));
        for (int turn = 0; turn < 4; turn++) {
            due("turn(6)", race.turn(6), model.turn(6));
        }
        int most = 0;
        for (int turn = 0; turn < 20 + buyer; turn++) {
            int mover = model.count(1);
            for (int before = 1; before < 4; before++) {
                int latest = (mover + 4 - before) % 4;
                if (latest != buyer || !inOneHand) {
                    sellAll(mover, latest);
                }
            }
            if (inOneHand) {
                sellAll(mover, buyer);
            }
            beBitten(mover);
            most = Math.max(most, model.count(4));
        }
        if (!inOneHand) {
            due("most bites at once", most, 13);
            return;
        }
        for (int seller = 0; seller < 4; seller++) {
            sellAll(seller, buyer);
        }
        everything();
        int held = model.player(buyer, 2);
        Checks.holds("many bites in one hand: " + held, held >= 9);
        for (int bite = -1; bite <= held; bite++) {
            for (int what = 0; what < 4; what++) {
                due("bite(" + bite + ", " + what + ")", race.bite(buyer, bite, what), model.bite(buyer, bite, what));
            }
        }
        for (char letter = 'a'; letter <= 'i'; letter++) {
            due("clearText()", race.clearText(), model.clearText());
            write("(" + buyer + letter + ">" + (buyer + letter) % 4 + "$9)");
            due("run()", race.run(), model.run());
        }
        everything();
    }

    private void sellAll(int seller, int buyer) {
        for (int bite = model.player(seller, 2) - 1; bite >= 0 && seller != buyer; bite--) {
            int coins = (model.bite(seller, bite, 0) + 2) / 3 + 2 * model.player(buyer, 2);
            String call = "sell(" + seller + ", " + bite + ", " + buyer + ", " + coins + ")";
            due(call, race.sell(seller, bite, buyer, coins), model.sell(seller, bite, buyer, coins));
        }
    }

    private void beBitten(int mover) {
        int dice = 1;
        int begin = model.player(mover, 4);
        while (dice < 6 && model.square(begin + dice, 0) > 0) {
            dice++;
        }
        int head = begin + dice;
        due("charm(9, 10)", race.charm(9, 10), model.charm(9, 10));
        for (int snake = 0; model.square(head, 1) == -5 && model.count(3) == 9 && snake < 9; snake++) {
            due("charm(" + snake + ", 10)", race.charm(snake, 10), model.charm(snake, 10));
        }
        due("snake(" + head + ", " + (head - 6) + ")", race.snake(head, head - 6), model.snake(head, head - 6));
        due("turn(" + dice + ")", race.turn(dice), model.turn(dice));
    }

    private void due(String call, long got, long want) {
        calls++;
        Checks.due("run " + run + ", call " + calls + ": " + call, got, want);
    }

    /** A value of the range, or sometimes one beside it or far from it. */
    private int value(int least, int most) {
        if (random.nextInt(100) >= strangeness) {
            return least + random.nextInt(most - least + 1);
        }
        int[] strange = {least - 1, most + 1, Integer.MIN_VALUE, Integer.MAX_VALUE, random.nextInt(), -5};
        return strange[random.nextInt(strange.length)];
    }

    private int player() {
        return value(0, 3);
    }

    /** Someone who holds a bite, if there is one. */
    private int holder() {
        int first = random.nextInt(4);
        for (int i = 0; i < 4; i++) {
            if (!model.now.held.get((first + i) % 4).isEmpty()) {
                return random.nextInt(20) == 0 ? player() : (first + i) % 4;
            }
        }
        return player();
    }

    private int bite(int holder) {
        int held = holder < 0 || holder > 3 ? 0 : model.now.held.get(holder).size();
        return value(0, Math.max(0, held - 1));
    }

    private int coins() {
        int least = random.nextInt(16);
        return random.nextInt(5) == 0 ? value(0, 99) : least;
    }

    private void step() {
        int kind = random.nextInt(40);
        if (kind < 4) {
            addSnake();
        } else if (kind < 5) {
            charm();
        } else if (kind < 14) {
            int dice = dice();
            due("turn(" + dice + ")", race.turn(dice), model.turn(dice));
        } else if (kind < 15) {
            int x = value(0, 65535);
            int many = random.nextInt(3) == 0 ? value(1, 50) : value(1, 5);
            due("play(" + x + ", " + many + ")", race.play(x, many), model.play(x, many));
        } else if (kind < 20) {
            sell();
        } else if (kind < 21) {
            set();
        } else if (kind < 23) {
            text();
        } else if (kind < 25) {
            history();
        } else {
            query();
        }
    }

    private void addSnake() {
        int head = random.nextBoolean() ? firstHead + random.nextInt(9) : value(7, 59);
        int tail = head - value(6, random.nextBoolean() ? 40 : 9);
        due("snake(" + head + ", " + tail + ")", race.snake(head, tail), model.snake(head, tail));
    }

    private void charm() {
        int snake = value(0, 9);
        int turns = random.nextInt(4) == 0 ? 10 : value(1, 4);
        due("charm(" + snake + ", " + turns + ")", race.charm(snake, turns), model.charm(snake, turns));
    }

    private int dice() {
        int dangers = steered ? model.dangers(model.count(1)) : 0;
        int dice = value(1, 6);
        return dangers > 0 && (dangers & (1 << dice)) == 0 ? Integer.numberOfTrailingZeros(dangers) : dice;
    }

    private void sell() {
        int seller = holder();
        int bite = bite(seller);
        int buyer = player();
        int coins = coins();
        int cheapest = model.cheapest(seller, bite);
        if (steered && cheapest >= 0 && random.nextInt(8) > 0) {
            buyer = cheapest / 100;
            coins = cheapest % 100;
        }
        String arguments = "(" + seller + ", " + bite + ", " + buyer + ", " + coins + ")";
        due("why" + arguments, race.why(seller, bite, buyer, coins), model.why(seller, bite, buyer, coins));
        due("sell" + arguments, race.sell(seller, bite, buyer, coins), model.sell(seller, bite, buyer, coins));
    }

    private void set() {
        int setting = value(0, 2);
        int value = value(setting == 2 ? 1 : 0, setting == 0 ? 9 : setting == 1 ? 50 : 3);
        due("set(" + setting + ", " + value + ")", race.set(setting, value), model.set(setting, value));
    }

    private void text() {
        if (random.nextInt(3) > 0) {
            due("clearText()", race.clearText(), model.clearText());
        }
        int orders = 1 + random.nextInt(6);
        for (int i = 0; i < orders; i++) {
            write(order());
        }
        due("fault()", race.fault(), model.fault());
        due("run()", race.run(), model.run());
    }

    private String order() {
        if (random.nextInt(3) > 0) {
            return "" + (1 + random.nextInt(6));
        }
        return "(" + random.nextInt(4) + (char) ('a' + random.nextInt(2)) + ">" + random.nextInt(4)
            + "$" + coins() + ")";
    }

    private void write(String order) {
        for (char sign : order.toCharArray()) {
            int written = sign;
            if (random.nextInt(300) == 0) {
                written = random.nextInt(4) == 0 ? value(32, 126) : "0123456789()abhi>$<".charAt(random.nextInt(19));
            }
            if (random.nextInt(200) > 0) {
                due("append(" + written + ")", race.append(written), model.append(written));
            }
        }
    }

    private void history() {
        int kind = random.nextInt(5);
        if (kind < 3) {
            due("undo()", race.undo(), model.undo());
        } else if (kind < 4) {
            due("save()", race.save(), model.save());
        } else {
            due("restore()", race.restore(), model.restore());
        }
    }

    private void query() {
        int player = player();
        int holder = holder();
        int bite = bite(holder);
        int what = value(0, 7);
        int x = value(0, 65535);
        switch (random.nextInt(11)) {
            case 0:
                due("player(" + player + ", " + what + ")", race.player(player, what), model.player(player, what));
                break;
            case 1:
                what = value(0, 3);
                due("bite(" + holder + ", " + bite + ", " + what + ")",
                    race.bite(holder, bite, what), model.bite(holder, bite, what));
                break;
            case 2:
                int snake = value(0, 9);
                what = value(0, 3);
                due("snakeOf(" + snake + ", " + what + ")", race.snakeOf(snake, what), model.snakeOf(snake, what));
                break;
            case 3:
                int square = random.nextBoolean() ? value(0, 60) : model.now.square[random.nextInt(4)];
                what = value(0, 2);
                due("square(" + square + ", " + what + ")", race.square(square, what), model.square(square, what));
                break;
            case 4:
                what = value(0, 12);
                due("count(" + what + ")", race.count(what), model.count(what));
                break;
            case 5:
                due("cheapest(" + holder + ", " + bite + ")", race.cheapest(holder, bite), model.cheapest(holder, bite));
                break;
            case 6:
                due("dangers(" + player + ")", race.dangers(player), model.dangers(player));
                break;
            case 7:
                int way = value(0, 1);
                due("fewest(" + player + ", " + way + ")", race.fewest(player, way), model.fewest(player, way));
                break;
            case 8:
                due("nextHome(" + x + ")", race.nextHome(x), model.nextHome(x));
                break;
            case 9:
                calls++;
                Checks.due("run " + run + ": progress(" + player + ")", race.progress(player), model.progress(player));
                break;
            default:
                everything();
                break;
        }
    }

    /** The whole state, as the queries tell it. */
    private void everything() {
        for (int what = 0; what < 13; what++) {
            due("count(" + what + ")", race.count(what), model.count(what));
        }
        for (int player = 0; player < 4; player++) {
            for (int what = 0; what < 8; what++) {
                due("player(" + player + ", " + what + ")", race.player(player, what), model.player(player, what));
            }
        }
    }
}
