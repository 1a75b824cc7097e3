/**
 * A race over squares with snakes, in which the bites are traded.
 *
 * Everything an object ever needs (the race, its history, the snapshot, the rows of a search) is made
 * in the constructor and filled again and again, so that no call makes an object.
 */
public final class SnakeTrades {
    public static final int NO_SUCH = -1;
    public static final int BAD_VALUE = -2;
    public static final int TOO_MANY = -3;
    public static final int NOT_POSSIBLE = -4;
    public static final int NONE = -5;
    public static final int SLEEP = 0, LIMIT = 1, TRADES = 2;

    private static final int PLAYERS = 4;
    private static final int SNAKES = 10;
    private static final int LAST_SQUARE = 60;
    private static final int SQUARES = LAST_SQUARE + 1;
    private static final int HIGHEST_THROW = 6;

    private static final int LEAST_HEAD = 7;
    private static final int HIGHEST_HEAD = 59;
    private static final int LEAST_TAIL = 1;
    private static final int HIGHEST_TAIL = 53;
    private static final int LEAST_SIZE = 6;
    private static final int HIGHEST_SIZE = 40;
    private static final int GOES_AWAY = 10;

    private static final int FIRST_COINS = 10;
    private static final int MOST_COINS = 99;
    /** Keeps the told coins above the error codes, since a player may be in debt. */
    private static final int COINS_SHIFT = 1000;
    private static final int REFUSED = -10;
    private static final int FAULTY = -100;

    private static final int REASON_NOT_IN_RACE = 1;
    private static final int REASON_SOLD_TOO_OFTEN = 2;
    private static final int REASON_HELD_ALREADY = 3;
    private static final int REASON_DEBT = 4;
    private static final int REASON_ASKS_MORE = 5;

    /**
     * More bites than can be held at once: a bite has at most 4 holders, each of whom keeps it for at most
     * 4 turns, the sale falling into the last of them; so it is gone after 13 turns, and a turn brings one
     * bite at most.
     */
    private static final int BITE_ROOM = 16;
    private static final int HISTORY_ROOM = 5;
    private static final int TEXT_ROOM = 60;

    private static final int LEAST_CHARACTER = 32;
    private static final int HIGHEST_CHARACTER = 126;
    private static final int HIGHEST_DRAW = 65535;
    private static final int MOST_TURNS_OF_PLAY = 50;
    private static final int MOST_TURNS_AHEAD = 200;

    private final Race race;
    private final Race trial;
    private final Race snapshot;
    private final Past past;
    private final Script script;
    private final Search search;
    private boolean hasSnapshot;

    public SnakeTrades() {
        race = new Race();
        trial = new Race();
        snapshot = new Race();
        past = new Past();
        script = new Script();
        search = new Search();
        hasSnapshot = false;
    }

    // ---- snakes

    public int snake(int head, int tail) {
        if (!isSnakeForm(head, tail)) {
            return BAD_VALUE;
        }
        if (race.numberOfHeadOn(head) != NONE) {
            return NOT_POSSIBLE;
        }
        int number = race.freeNumber();
        Snake place = race.placeOfSnake(number);
        if (place == null) {
            return TOO_MANY;
        }
        past.remember(race);
        place.appear(head, tail);
        return number;
    }

    public int charm(int snake, int turns) {
        Snake charmed = race.snakeNumbered(snake);
        if (charmed == null) {
            return NO_SUCH;
        }
        if (turns < 1 || turns > GOES_AWAY) {
            return BAD_VALUE;
        }
        past.remember(race);
        int before = charmed.sleep;
        if (turns == GOES_AWAY) {
            charmed.vanish();
        } else {
            charmed.sleep += turns;
        }
        return before;
    }

    // ---- turns

    public int turn(int dice) {
        if (dice < 1 || dice > HIGHEST_THROW) {
            return BAD_VALUE;
        }
        if (race.isOver()) {
            return NOT_POSSIBLE;
        }
        past.remember(race);
        return race.makeTurn(dice);
    }

    public int play(int x, int many) {
        if (!isDraw(x) || many < 1 || many > MOST_TURNS_OF_PLAY) {
            return BAD_VALUE;
        }
        if (race.isOver()) {
            return NOT_POSSIBLE;
        }
        past.remember(race);
        int drawn = x;
        int made = 0;
        while (made < many && !race.isOver()) {
            drawn = drawAfter(drawn);
            race.makeTurn(throwOf(drawn));
            made++;
        }
        return made;
    }

    // ---- trades, settings

    public int sell(int seller, int bite, int buyer, int coins) {
        if (race.obstacle(seller, bite, buyer, coins) == 0) {
            past.remember(race);
        }
        return race.trade(seller, bite, buyer, coins);
    }

    public int set(int setting, int value) {
        if (setting < SLEEP || setting > TRADES) {
            return NO_SUCH;
        }
        if (value < leastValue(setting) || value > highestValue(setting)) {
            return BAD_VALUE;
        }
        past.remember(race);
        int before = race.settingOf(setting);
        race.changeSetting(setting, value);
        return before;
    }

    // ---- text

    public int append(int character) {
        if (character < LEAST_CHARACTER || character > HIGHEST_CHARACTER) {
            return BAD_VALUE;
        }
        return script.add(character) ? script.length : TOO_MANY;
    }

    public int clearText() {
        int before = script.length;
        script.length = 0;
        return before;
    }

    public int fault() {
        return script.firstFault();
    }

    public int run() {
        int found = script.firstFault();
        if (found != NONE) {
            return FAULTY - found;
        }
        past.remember(race);
        return script.carryOut(race);
    }

    // ---- history and snapshot

    public int undo() {
        return past.bringBack(race);
    }

    public int save() {
        snapshot.copyFrom(race);
        hasSnapshot = true;
        return race.turns;
    }

    public int restore() {
        if (!hasSnapshot) {
            return NOT_POSSIBLE;
        }
        past.remember(race);
        race.copyFrom(snapshot);
        return race.turns;
    }

    // ---- queries; they change nothing

    public int player(int player, int what) {
        Piece piece = race.pieceOf(player);
        if (piece == null) {
            return NO_SUCH;
        }
        switch (what) {
            case 0:
                return piece.square;
            case 1:
                return piece.coins + COINS_SHIFT;
            case 2:
                return piece.held;
            case 3:
                return piece.sizesTogether();
            case 4:
                return piece.nextBeginning();
            case 5:
                return piece.place;
            case 6:
                return piece.timesBitten;
            case 7:
                return piece.movedBack;
            default:
                return BAD_VALUE;
        }
    }

    public int bite(int player, int bite, int what) {
        Bite held = race.biteOf(player, bite);
        if (held == null) {
            return NO_SUCH;
        }
        switch (what) {
            case 0:
                return held.size;
            case 1:
                return held.timesSold;
            case 2:
                return held.bitten;
            case 3:
                return held.holders;
            default:
                return BAD_VALUE;
        }
    }

    public int snakeOf(int snake, int what) {
        Snake found = race.snakeNumbered(snake);
        if (found == null) {
            return NO_SUCH;
        }
        switch (what) {
            case 0:
                return found.head;
            case 1:
                return found.tail;
            case 2:
                return found.sleep;
            case 3:
                return found.timesBiting;
            default:
                return BAD_VALUE;
        }
    }

    public int square(int square, int what) {
        if (square < 0 || square > LAST_SQUARE) {
            return BAD_VALUE;
        }
        switch (what) {
            case 0:
                return race.piecesOn(square);
            case 1:
                return race.numberOfHeadOn(square);
            case 2:
                return race.tailsOn(square);
            default:
                return BAD_VALUE;
        }
    }

    public int count(int what) {
        switch (what) {
            case 0:
                return race.turns;
            case 1:
                return race.mover;
            case 2:
                return race.playersInRace();
            case 3:
                return race.snakesThere();
            case 4:
                return race.bitesHeld();
            case 5:
                return race.bitesSoFar;
            case 6:
                return race.salesSoFar;
            case 7:
                return race.coinsOfAll();
            case 8:
                return race.settingOf(SLEEP);
            case 9:
                return race.settingOf(LIMIT);
            case 10:
                return race.settingOf(TRADES);
            case 11:
                return past.held;
            case 12:
                return script.length;
            default:
                return BAD_VALUE;
        }
    }

    // ---- what would be; nothing is changed

    public int why(int seller, int bite, int buyer, int coins) {
        return race.obstacle(seller, bite, buyer, coins);
    }

    public int cheapest(int seller, int bite) {
        Bite offered = race.biteOf(seller, bite);
        if (offered == null) {
            return NO_SUCH;
        }
        int best = NONE;
        int fewestCoins = MOST_COINS + 1;
        for (int buyer = 0; buyer < PLAYERS; buyer++) {
            int coins = race.askedBy(buyer, offered);
            if (coins < fewestCoins && race.obstacle(seller, bite, buyer, coins) == 0) {
                fewestCoins = coins;
                best = 100 * buyer + coins;
            }
        }
        return best;
    }

    public int dangers(int player) {
        Piece piece = race.pieceOf(player);
        if (piece == null) {
            return NO_SUCH;
        }
        if (!piece.isInRace()) {
            return NOT_POSSIBLE;
        }
        int beginning = piece.nextBeginning();
        int mask = 0;
        for (int dice = 1; dice <= HIGHEST_THROW; dice++) {
            if (race.biterOf(player, landing(beginning, dice)) != null) {
                mask |= 1 << dice;
            }
        }
        return mask;
    }

    public int fewest(int player, int way) {
        Piece piece = race.pieceOf(player);
        if (piece == null) {
            return NO_SUCH;
        }
        if (way != 0 && way != 1) {
            return BAD_VALUE;
        }
        if (!piece.isInRace()) {
            return 0;
        }
        int beginning = piece.nextBeginning();
        return way == 0 ? search.onFrom(race, beginning) : search.backTo(race, beginning);
    }

    public int nextHome(int x) {
        if (!isDraw(x)) {
            return BAD_VALUE;
        }
        if (race.isOver()) {
            return NOT_POSSIBLE;
        }
        trial.copyFrom(race);
        int drawn = x;
        for (int made = 0; made < MOST_TURNS_AHEAD; made++) {
            int mover = trial.mover;
            drawn = drawAfter(drawn);
            if (trial.makeTurn(throwOf(drawn)) == LAST_SQUARE) {
                return mover;
            }
        }
        return NONE;
    }

    public double progress(int player) {
        Piece piece = race.pieceOf(player);
        return piece == null ? 0.0 : piece.nextBeginning() / (double) LAST_SQUARE;
    }

    // ---- what the calls have in common

    private static boolean isSnakeForm(int head, int tail) {
        return head >= LEAST_HEAD && head <= HIGHEST_HEAD
            && tail >= LEAST_TAIL && tail <= HIGHEST_TAIL
            && head - tail >= LEAST_SIZE && head - tail <= HIGHEST_SIZE;
    }

    private static int leastValue(int setting) {
        return setting == TRADES ? 1 : 0;
    }

    private static int highestValue(int setting) {
        switch (setting) {
            case SLEEP:
                return 9;
            case LIMIT:
                return 50;
            default:
                return 3;
        }
    }

    private static boolean isDraw(int x) {
        return x >= 0 && x <= HIGHEST_DRAW;
    }

    private static int drawAfter(int x) {
        return (25173 * x + 13849) % 65536;
    }

    private static int throwOf(int drawn) {
        return 1 + drawn / 10923;
    }

    private static int landing(int from, int dice) {
        int square = from + dice;
        return square > LAST_SQUARE ? LAST_SQUARE + LAST_SQUARE - square : square;
    }

    /** A place for a bite in the row of a player. */
    private static final class Bite {
        int size;
        int timesSold;
        int bitten;
        int holders;

        void begin(int newSize, int player) {
            size = newSize;
            timesSold = 0;
            bitten = player;
            holders = 1 << player;
        }

        void copyFrom(Bite other) {
            size = other.size;
            timesSold = other.timesSold;
            bitten = other.bitten;
            holders = other.holders;
        }

        void passTo(int buyer) {
            timesSold++;
            holders |= 1 << buyer;
        }

        boolean wasHeldBy(int player) {
            return (holders & (1 << player)) != 0;
        }
    }

    /** What belongs to one player. */
    private static final class Piece {
        final Bite[] bites;
        int held;
        int square;
        int coins;
        int place;
        int timesBitten;
        int movedBack;

        Piece() {
            bites = new Bite[BITE_ROOM];
            for (int i = 0; i < bites.length; i++) {
                bites[i] = new Bite();
            }
            coins = FIRST_COINS;
            place = NONE;
        }

        boolean isInRace() {
            return square != LAST_SQUARE;
        }

        Bite biteAt(int index) {
            return index >= 0 && index < held && index < bites.length ? bites[index] : null;
        }

        int sizesTogether() {
            int sum = 0;
            for (int i = 0; i < held; i++) {
                Bite bite = biteAt(i);
                sum += bite == null ? 0 : bite.size;
            }
            return sum;
        }

        int nextBeginning() {
            int back = square - sizesTogether();
            return back > 0 ? back : 0;
        }

        void hurt() {
            int beginning = nextBeginning();
            movedBack += square - beginning;
            square = beginning;
            held = 0;
        }

        /** The place behind the last bite, as the new last bite; null if there is no more room. */
        Bite newLast() {
            if (held >= bites.length) {
                return null;
            }
            held++;
            return biteAt(held - 1);
        }

        /** The place that becomes free is kept behind the bites, so that no place is ever made again. */
        void remove(int index) {
            int last = held - 1;
            if (index < 0 || index > last || last >= bites.length) {
                return;
            }
            Bite free = bites[index];
            for (int i = index; i < last; i++) {
                bites[i] = bites[i + 1];
            }
            bites[last] = free;
            held = last;
        }

        void copyFrom(Piece other) {
            held = other.held;
            square = other.square;
            coins = other.coins;
            place = other.place;
            timesBitten = other.timesBitten;
            movedBack = other.movedBack;
            for (int i = 0; i < held; i++) {
                Bite mine = biteAt(i);
                Bite theirs = other.biteAt(i);
                if (mine != null && theirs != null) {
                    mine.copyFrom(theirs);
                }
            }
        }
    }

    /** A place for a snake; there is none as long as the head is 0. */
    private static final class Snake {
        int head;
        int tail;
        int sleep;
        int timesBiting;

        boolean isThere() {
            return head > 0;
        }

        void appear(int newHead, int newTail) {
            head = newHead;
            tail = newTail;
            sleep = 0;
            timesBiting = 0;
        }

        void vanish() {
            appear(0, 0);
        }

        void copyFrom(Snake other) {
            head = other.head;
            tail = other.tail;
            sleep = other.sleep;
            timesBiting = other.timesBiting;
        }
    }

    /** The state that the history and the snapshot keep. */
    private static final class Race {
        final Piece[] pieces;
        final Snake[] snakes;
        int sleepSetting;
        int limitSetting;
        int tradesSetting;
        int mover;
        int turns;
        int arrived;
        int bitesSoFar;
        int salesSoFar;

        Race() {
            pieces = new Piece[PLAYERS];
            for (int i = 0; i < pieces.length; i++) {
                pieces[i] = new Piece();
            }
            snakes = new Snake[SNAKES];
            for (int i = 0; i < snakes.length; i++) {
                snakes[i] = new Snake();
            }
            sleepSetting = 2;
            limitSetting = 20;
            tradesSetting = 2;
        }

        void copyFrom(Race other) {
            for (int i = 0; i < PLAYERS; i++) {
                Piece mine = pieceOf(i);
                Piece theirs = other.pieceOf(i);
                if (mine != null && theirs != null) {
                    mine.copyFrom(theirs);
                }
            }
            for (int i = 0; i < SNAKES; i++) {
                Snake mine = placeOfSnake(i);
                Snake theirs = other.placeOfSnake(i);
                if (mine != null && theirs != null) {
                    mine.copyFrom(theirs);
                }
            }
            sleepSetting = other.sleepSetting;
            limitSetting = other.limitSetting;
            tradesSetting = other.tradesSetting;
            mover = other.mover;
            turns = other.turns;
            arrived = other.arrived;
            bitesSoFar = other.bitesSoFar;
            salesSoFar = other.salesSoFar;
        }

        // ---- who and what is there

        /** Null if there is no such player. */
        Piece pieceOf(int player) {
            return player >= 0 && player < pieces.length ? pieces[player] : null;
        }

        /** Null if there is no such player or bite. */
        Bite biteOf(int player, int index) {
            Piece piece = pieceOf(player);
            return piece == null ? null : piece.biteAt(index);
        }

        /** Null if the number is none of a snake; the place may be without a snake. */
        Snake placeOfSnake(int number) {
            return number >= 0 && number < snakes.length ? snakes[number] : null;
        }

        /** Null if there is no such snake. */
        Snake snakeNumbered(int number) {
            Snake place = placeOfSnake(number);
            return place != null && place.isThere() ? place : null;
        }

        int freeNumber() {
            for (int i = 0; i < SNAKES; i++) {
                if (snakeNumbered(i) == null) {
                    return i;
                }
            }
            return NONE;
        }

        int numberOfHeadOn(int square) {
            for (int i = 0; i < SNAKES; i++) {
                Snake snake = snakeNumbered(i);
                if (snake != null && snake.head == square) {
                    return i;
                }
            }
            return NONE;
        }

        int tailsOn(int square) {
            int tails = 0;
            for (int i = 0; i < SNAKES; i++) {
                Snake snake = snakeNumbered(i);
                if (snake != null && snake.tail == square) {
                    tails++;
                }
            }
            return tails;
        }

        int snakesThere() {
            int there = 0;
            for (int i = 0; i < SNAKES; i++) {
                there += snakeNumbered(i) == null ? 0 : 1;
            }
            return there;
        }

        int piecesOn(int square) {
            int mask = 0;
            for (int i = 0; i < PLAYERS; i++) {
                Piece piece = pieceOf(i);
                if (piece != null && piece.square == square) {
                    mask |= 1 << i;
                }
            }
            return mask;
        }

        boolean isInRace(int player) {
            Piece piece = pieceOf(player);
            return piece != null && piece.isInRace();
        }

        int playersInRace() {
            int players = 0;
            for (int i = 0; i < PLAYERS; i++) {
                players += isInRace(i) ? 1 : 0;
            }
            return players;
        }

        int bitesHeld() {
            int bites = 0;
            for (int i = 0; i < PLAYERS; i++) {
                Piece piece = pieceOf(i);
                bites += piece == null ? 0 : piece.held;
            }
            return bites;
        }

        int coinsOfAll() {
            int coins = 0;
            for (int i = 0; i < PLAYERS; i++) {
                Piece piece = pieceOf(i);
                coins += piece == null ? 0 : piece.coins;
            }
            return coins;
        }

        // ---- settings

        int settingOf(int setting) {
            switch (setting) {
                case SLEEP:
                    return sleepSetting;
                case LIMIT:
                    return limitSetting;
                default:
                    return tradesSetting;
            }
        }

        void changeSetting(int setting, int value) {
            switch (setting) {
                case SLEEP:
                    sleepSetting = value;
                    break;
                case LIMIT:
                    limitSetting = value;
                    break;
                default:
                    tradesSetting = value;
                    break;
            }
        }

        // ---- turns

        boolean isOver() {
            return mover == NONE;
        }

        /** The square of the piece then; NOT_POSSIBLE if it is nobody's turn. */
        int makeTurn(int dice) {
            int player = mover;
            Piece piece = pieceOf(player);
            if (piece == null) {
                return NOT_POSSIBLE;
            }
            piece.hurt();
            piece.square = landing(piece.square, dice);
            Snake biter = biterOf(player, piece.square);
            if (biter != null) {
                biteWith(biter, piece, player);
            }
            if (!piece.isInRace()) {
                arrived++;
                piece.place = arrived;
            }
            shortenSleeps();
            turns++;
            mover = moverAfter(player);
            return piece.square;
        }

        /** The snake that would bite the player on this square, or null. */
        Snake biterOf(int player, int square) {
            Snake snake = snakeNumbered(numberOfHeadOn(square));
            if (snake == null || snake.sleep > 0) {
                return null;
            }
            int others = piecesOn(square) & ~(1 << player);
            return others == 0 ? snake : null;
        }

        private void biteWith(Snake snake, Piece piece, int player) {
            Bite bite = piece.newLast();
            if (bite != null) {
                bite.begin(snake.head - snake.tail, player);
            }
            snake.timesBiting++;
            snake.sleep = sleepSetting + 1;
            piece.timesBitten++;
            bitesSoFar++;
        }

        private void shortenSleeps() {
            for (int i = 0; i < SNAKES; i++) {
                Snake snake = snakeNumbered(i);
                if (snake != null && snake.sleep > 0) {
                    snake.sleep--;
                }
            }
        }

        private int moverAfter(int player) {
            for (int step = 1; step <= PLAYERS; step++) {
                int next = (player + step) % PLAYERS;
                if (isInRace(next)) {
                    return next;
                }
            }
            return NONE;
        }

        /** Where the turn after this landing begins, if no snake sleeps and no other piece is there. */
        int beginningAfter(int landed) {
            Snake snake = snakeNumbered(numberOfHeadOn(landed));
            return snake == null ? landed : snake.tail;
        }

        // ---- trades

        int askedBy(int buyer, Bite bite) {
            Piece piece = pieceOf(buyer);
            int held = piece == null ? 0 : piece.held;
            return (bite.size + 2) / 3 + 2 * held;
        }

        /** An error code, the reason why the sale would be refused, or 0. */
        int obstacle(int seller, int index, int buyer, int coins) {
            Piece from = pieceOf(seller);
            Piece to = pieceOf(buyer);
            Bite bite = biteOf(seller, index);
            if (from == null || to == null || bite == null) {
                return NO_SUCH;
            }
            if (coins < 0 || coins > MOST_COINS || seller == buyer) {
                return BAD_VALUE;
            }
            if (!to.isInRace()) {
                return REASON_NOT_IN_RACE;
            }
            if (bite.timesSold >= tradesSetting) {
                return REASON_SOLD_TOO_OFTEN;
            }
            if (bite.wasHeldBy(buyer)) {
                return REASON_HELD_ALREADY;
            }
            if (from.coins - coins < 0 - limitSetting) {
                return REASON_DEBT;
            }
            return coins < askedBy(buyer, bite) ? REASON_ASKS_MORE : 0;
        }

        /** The coins of the buyer then, as they are told, or an error code. */
        int trade(int seller, int index, int buyer, int coins) {
            int obstacle = obstacle(seller, index, buyer, coins);
            if (obstacle != 0) {
                return obstacle < 0 ? obstacle : REFUSED - obstacle;
            }
            Piece from = pieceOf(seller);
            Piece to = pieceOf(buyer);
            if (from == null || to == null) {
                return NO_SUCH;
            }
            Bite sold = from.biteAt(index);
            Bite bought = to.newLast();
            if (sold != null && bought != null) {
                bought.copyFrom(sold);
                bought.passTo(buyer);
            }
            from.remove(index);
            from.coins -= coins;
            to.coins += coins;
            salesSoFar++;
            return to.coins + COINS_SHIFT;
        }
    }

    /** The states that can be brought back, the oldest one first. */
    private static final class Past {
        final Race[] states;
        int held;

        Past() {
            states = new Race[HISTORY_ROOM];
            for (int i = 0; i < states.length; i++) {
                states[i] = new Race();
            }
        }

        private Race stateAt(int index) {
            return index >= 0 && index < states.length ? states[index] : null;
        }

        void remember(Race race) {
            if (held >= states.length) {
                dropOldest();
            }
            Race free = stateAt(held);
            if (free != null) {
                free.copyFrom(race);
                held++;
            }
        }

        /** The number of states that are left then, or NONE. */
        int bringBack(Race race) {
            Race latest = stateAt(held - 1);
            if (latest == null) {
                return NONE;
            }
            race.copyFrom(latest);
            held--;
            return held;
        }

        private void dropOldest() {
            Race oldest = stateAt(0);
            int last = states.length - 1;
            if (oldest == null || last < 0) {
                return;
            }
            for (int i = 0; i < last; i++) {
                states[i] = states[i + 1];
            }
            states[last] = oldest;
            held = last;
        }
    }

    /** The text, and how it is read. */
    private static final class Script {
        /** What the signs read so far end with; each but NOWHERE can still become a script. */
        private static final int NOWHERE = 0;
        private static final int ORDER = 1;
        private static final int OPENING = 2;
        private static final int SELLER = 3;
        private static final int LETTER = 4;
        private static final int ARROW = 5;
        private static final int BUYER = 6;
        private static final int DOLLAR = 7;
        private static final int FIRST_DIGIT = 8;
        private static final int WHOLE_NUMBER = 9;

        final int[] signs;
        int length;

        Script() {
            signs = new int[TEXT_ROOM];
        }

        private int signAt(int index) {
            return index >= 0 && index < length && index < signs.length ? signs[index] : 0;
        }

        boolean add(int sign) {
            if (length < 0 || length >= signs.length) {
                return false;
            }
            signs[length] = sign;
            length++;
            return true;
        }

        int firstFault() {
            int read = ORDER;
            for (int i = 0; i < length; i++) {
                read = readAfter(read, signAt(i));
                if (read == NOWHERE) {
                    return i;
                }
            }
            return read == ORDER && length > 0 ? NONE : length;
        }

        private static int readAfter(int read, int sign) {
            switch (read) {
                case ORDER:
                    return sign == '(' ? OPENING : isFrom('1', sign, '6') ? ORDER : NOWHERE;
                case OPENING:
                    return isFrom('0', sign, '3') ? SELLER : NOWHERE;
                case SELLER:
                    return isFrom('a', sign, 'h') ? LETTER : NOWHERE;
                case LETTER:
                    return sign == '>' ? ARROW : NOWHERE;
                case ARROW:
                    return isFrom('0', sign, '3') ? BUYER : NOWHERE;
                case BUYER:
                    return sign == '$' ? DOLLAR : NOWHERE;
                case DOLLAR:
                    return sign == '0' ? WHOLE_NUMBER : isFrom('1', sign, '9') ? FIRST_DIGIT : NOWHERE;
                case FIRST_DIGIT:
                    return sign == ')' ? ORDER : isFrom('0', sign, '9') ? WHOLE_NUMBER : NOWHERE;
                case WHOLE_NUMBER:
                    return sign == ')' ? ORDER : NOWHERE;
                default:
                    return NOWHERE;
            }
        }

        private static boolean isFrom(int first, int sign, int last) {
            return sign >= first && sign <= last;
        }

        /** How many orders of the script, which has no fault, are carried out. */
        int carryOut(Race race) {
            int done = 0;
            int opening = NONE;
            for (int i = 0; i < length; i++) {
                int sign = signAt(i);
                if (sign == '(') {
                    opening = i;
                }
                if (opening == NONE || sign == ')') {
                    int answer = opening == NONE ? race.makeTurn(sign - '0') : tradeFrom(race, opening, i);
                    if (answer < 0) {
                        return done;
                    }
                    done++;
                    opening = NONE;
                }
            }
            return done;
        }

        private int tradeFrom(Race race, int opening, int closing) {
            int seller = signAt(opening + 1) - '0';
            int index = signAt(opening + 2) - 'a';
            int buyer = signAt(opening + 4) - '0';
            int coins = 0;
            for (int i = opening + 6; i < closing; i++) {
                coins = 10 * coins + signAt(i) - '0';
            }
            return race.trade(seller, index, buyer, coins);
        }
    }

    /** Finds the fewest throws, by a breadth-first search over the squares on which turns begin. */
    private static final class Search {
        private static final int UNSEEN = -1;

        final int[] throwsTo;
        final int[] queue;
        int queued;

        Search() {
            throwsTo = new int[SQUARES];
            queue = new int[SQUARES];
        }

        int onFrom(Race race, int beginning) {
            start(beginning);
            for (int i = 0; i < queued && i < queue.length; i++) {
                int here = queue[i];
                if (here == LAST_SQUARE) {
                    return throwsAt(here);
                }
                for (int dice = 1; dice <= HIGHEST_THROW; dice++) {
                    see(race.beginningAfter(landing(here, dice)), throwsAt(here) + 1);
                }
            }
            return NONE;
        }

        int backTo(Race race, int beginning) {
            start(LAST_SQUARE);
            for (int i = 0; i < queued && i < queue.length; i++) {
                int here = queue[i];
                if (here == beginning) {
                    return throwsAt(here);
                }
                seeLandingsThatLeadTo(here, race);
            }
            return NONE;
        }

        /** A turn begins here after a landing here without a snake, or on the head of a snake with its tail here. */
        private void seeLandingsThatLeadTo(int here, Race race) {
            int more = throwsAt(here) + 1;
            if (race.numberOfHeadOn(here) == NONE) {
                seeSquaresBefore(here, more);
            }
            for (int number = 0; number < SNAKES; number++) {
                Snake snake = race.snakeNumbered(number);
                if (snake != null && snake.tail == here) {
                    seeSquaresBefore(snake.head, more);
                }
            }
        }

        /** A throw comes to a square straight on, or backwards from the last one. */
        private void seeSquaresBefore(int landed, int steps) {
            for (int dice = 1; dice <= HIGHEST_THROW; dice++) {
                see(landed - dice, steps);
                see(LAST_SQUARE + LAST_SQUARE - landed - dice, steps);
            }
        }

        private void start(int square) {
            for (int i = 0; i < throwsTo.length; i++) {
                throwsTo[i] = UNSEEN;
            }
            queued = 0;
            see(square, 0);
        }

        private void see(int square, int steps) {
            if (square < 0 || square >= throwsTo.length || throwsTo[square] != UNSEEN) {
                return;
            }
            throwsTo[square] = steps;
            if (queued >= 0 && queued < queue.length) {
                queue[queued] = square;
                queued++;
            }
        }

        private int throwsAt(int square) {
            return square >= 0 && square < throwsTo.length ? throwsTo[square] : NONE;
        }
    }
}
