import java.util.ArrayList;
import java.util.HashMap;
import java.util.List;
import java.util.Map;
import java.util.TreeMap;
import java.util.regex.Matcher;
import java.util.regex.Pattern;

/** The document once more, written from its words with the Java library, in other ways than the class. */
final class Model {
    private static final Pattern SCRIPT =
        Pattern.compile("(?:[1-6]|\\([0-3][a-h]>[0-3]\\$(?:0|[1-9][0-9]?)\\))+");
    private static final Pattern ORDER =
        Pattern.compile("([1-6])|\\(([0-3])([a-h])>([0-3])\\$([0-9]+)\\)");

    static final class BiteOf {
        int size;
        int from;
        List<Integer> heldBy = new ArrayList<>();

        BiteOf copy() {
            BiteOf other = new BiteOf();
            other.size = size;
            other.from = from;
            other.heldBy = new ArrayList<>(heldBy);
            return other;
        }
    }

    static final class SnakeOnBoard {
        int head;
        int tail;
        int sleep;
        int bites;
    }

    static final class State {
        int[] square = new int[4];
        int[] coins = {10, 10, 10, 10};
        int[] bitten = new int[4];
        int[] moved = new int[4];
        List<Integer> home = new ArrayList<>();
        List<List<BiteOf>> held = new ArrayList<>();
        Map<Integer, SnakeOnBoard> snakes = new TreeMap<>();
        int[] settings = {2, 20, 2};
        int turn = 0;
        int turns = 0;
        int bites = 0;
        int sales = 0;

        State() {
            for (int i = 0; i < 4; i++) {
                held.add(new ArrayList<>());
            }
        }

        State copy() {
            State other = new State();
            other.square = square.clone();
            other.coins = coins.clone();
            other.bitten = bitten.clone();
            other.moved = moved.clone();
            other.home = new ArrayList<>(home);
            for (int i = 0; i < 4; i++) {
                for (BiteOf bite : held.get(i)) {
                    other.held.get(i).add(bite.copy());
                }
            }
            for (Map.Entry<Integer, SnakeOnBoard> entry : snakes.entrySet()) {
                SnakeOnBoard from = entry.getValue();
                SnakeOnBoard to = new SnakeOnBoard();
                to.head = from.head;
                to.tail = from.tail;
                to.sleep = from.sleep;
                to.bites = from.bites;
                other.snakes.put(entry.getKey(), to);
            }
            other.settings = settings.clone();
            other.turn = turn;
            other.turns = turns;
            other.bites = bites;
            other.sales = sales;
            return other;
        }
    }

    State now = new State();
    final List<State> history = new ArrayList<>();
    State kept = null;
    final StringBuilder text = new StringBuilder();

    private void record() {
        history.add(now.copy());
        if (history.size() > 5) {
            history.remove(0);
        }
    }

    private static boolean in(int least, int value, int most) {
        return least <= value && value <= most;
    }

    private static int sum(List<BiteOf> bites) {
        return bites.stream().mapToInt(bite -> bite.size).sum();
    }

    private static int begin(State state, int player) {
        return Math.max(0, state.square[player] - sum(state.held.get(player)));
    }

    private static int go(int square, int dice) {
        int at = square;
        int step = 1;
        for (int i = 0; i < dice; i++) {
            if (at == 60) {
                step = -1;
            }
            at += step;
        }
        return at;
    }

    private static SnakeOnBoard bites(State state, int player, int square) {
        for (int other = 0; other < 4; other++) {
            if (other != player && state.square[other] == square) {
                return null;
            }
        }
        return state.snakes.values().stream()
            .filter(snake -> snake.head == square && snake.sleep == 0).findFirst().orElse(null);
    }

    private static int turnIn(State state, int dice) {
        int player = state.turn;
        int begin = begin(state, player);
        state.moved[player] += state.square[player] - begin;
        state.held.get(player).clear();
        state.square[player] = go(begin, dice);
        SnakeOnBoard snake = bites(state, player, state.square[player]);
        if (snake != null) {
            BiteOf bite = new BiteOf();
            bite.size = snake.head - snake.tail;
            bite.from = player;
            bite.heldBy.add(player);
            state.held.get(player).add(bite);
            snake.sleep = state.settings[0] + 1;
            snake.bites++;
            state.bitten[player]++;
            state.bites++;
        }
        if (state.square[player] == 60) {
            state.home.add(player);
        }
        state.snakes.values().forEach(each -> each.sleep = Math.max(0, each.sleep - 1));
        state.turns++;
        if (state.home.size() == 4) {
            state.turn = -5;
        } else {
            do {
                state.turn = state.turn == 3 ? 0 : state.turn + 1;
            } while (state.home.contains(state.turn));
        }
        return state.square[player];
    }

    int snake(int head, int tail) {
        if (!in(7, head, 59) || !in(1, tail, 53) || !in(6, head - tail, 40)) {
            return -2;
        }
        if (now.snakes.values().stream().anyMatch(snake -> snake.head == head)) {
            return -4;
        }
        if (now.snakes.size() == 10) {
            return -3;
        }
        record();
        int number = 0;
        while (now.snakes.containsKey(number)) {
            number++;
        }
        SnakeOnBoard snake = new SnakeOnBoard();
        snake.head = head;
        snake.tail = tail;
        now.snakes.put(number, snake);
        return number;
    }

    int charm(int number, int turns) {
        if (!now.snakes.containsKey(number)) {
            return -1;
        }
        if (!in(1, turns, 10)) {
            return -2;
        }
        record();
        int before = now.snakes.get(number).sleep;
        if (turns == 10) {
            now.snakes.remove(number);
        } else {
            now.snakes.get(number).sleep += turns;
        }
        return before;
    }

    int turn(int dice) {
        if (!in(1, dice, 6)) {
            return -2;
        }
        if (now.home.size() == 4) {
            return -4;
        }
        record();
        return turnIn(now, dice);
    }

    int play(int x, int many) {
        if (!in(0, x, 65535) || !in(1, many, 50)) {
            return -2;
        }
        if (now.home.size() == 4) {
            return -4;
        }
        record();
        long drawn = x;
        for (int made = 0; made < many; made++) {
            if (now.home.size() == 4) {
                return made;
            }
            drawn = (25173 * drawn + 13849) & 0xFFFF;
            turnIn(now, (int) (1 + drawn / 10923));
        }
        return many;
    }

    int why(int seller, int index, int buyer, int coins) {
        if (!in(0, seller, 3) || !in(0, buyer, 3) || !in(0, index, now.held.get(seller).size() - 1)) {
            return -1;
        }
        if (!in(0, coins, 99) || seller == buyer) {
            return -2;
        }
        BiteOf bite = now.held.get(seller).get(index);
        if (now.home.contains(buyer)) {
            return 1;
        }
        if (bite.heldBy.size() - 1 >= now.settings[2]) {
            return 2;
        }
        if (bite.heldBy.contains(buyer)) {
            return 3;
        }
        if (now.coins[seller] - coins < -now.settings[1]) {
            return 4;
        }
        int third = 0;
        while (3 * third < bite.size) {
            third++;
        }
        return coins < third + 2 * now.held.get(buyer).size() ? 5 : 0;
    }

    int sell(int seller, int index, int buyer, int coins) {
        return sellIt(seller, index, buyer, coins, true);
    }

    private int sellIt(int seller, int index, int buyer, int coins, boolean action) {
        int why = why(seller, index, buyer, coins);
        if (why != 0) {
            return why < 0 ? why : -10 - why;
        }
        if (action) {
            record();
        }
        BiteOf bite = now.held.get(seller).remove(index);
        bite.heldBy.add(buyer);
        now.held.get(buyer).add(bite);
        now.coins[seller] -= coins;
        now.coins[buyer] += coins;
        now.sales++;
        return now.coins[buyer] + 1000;
    }

    int set(int setting, int value) {
        if (!in(0, setting, 2)) {
            return -1;
        }
        int[][] ranges = {{0, 9}, {0, 50}, {1, 3}};
        if (!in(ranges[setting][0], value, ranges[setting][1])) {
            return -2;
        }
        record();
        int before = now.settings[setting];
        now.settings[setting] = value;
        return before;
    }

    int append(int character) {
        if (!in(32, character, 126)) {
            return -2;
        }
        if (text.length() == 60) {
            return -3;
        }
        return text.append((char) character).length();
    }

    int clearText() {
        int before = text.length();
        text.setLength(0);
        return before;
    }

    int fault() {
        for (int i = 0; i < text.length(); i++) {
            Matcher matcher = SCRIPT.matcher(text.substring(0, i + 1));
            if (!matcher.matches() && !matcher.hitEnd()) {
                return i;
            }
        }
        return SCRIPT.matcher(text).matches() ? -5 : text.length();
    }

    int run() {
        if (fault() != -5) {
            return -100 - fault();
        }
        record();
        Matcher order = ORDER.matcher(text);
        int done = 0;
        while (order.find()) {
            int answer;
            if (order.group(1) != null) {
                answer = now.home.size() == 4 ? -4 : turnIn(now, Integer.parseInt(order.group(1)));
            } else {
                answer = sellIt(Integer.parseInt(order.group(2)), order.group(3).charAt(0) - 'a',
                    Integer.parseInt(order.group(4)), Integer.parseInt(order.group(5)), false);
            }
            if (answer < 0) {
                break;
            }
            done++;
        }
        return done;
    }

    int undo() {
        if (history.isEmpty()) {
            return -5;
        }
        now = history.remove(history.size() - 1);
        return history.size();
    }

    int save() {
        kept = now.copy();
        return now.turns;
    }

    int restore() {
        if (kept == null) {
            return -4;
        }
        record();
        now = kept.copy();
        return now.turns;
    }

    int player(int player, int what) {
        if (!in(0, player, 3)) {
            return -1;
        }
        if (!in(0, what, 7)) {
            return -2;
        }
        int[] answers = {now.square[player], now.coins[player] + 1000, now.held.get(player).size(),
            sum(now.held.get(player)), begin(now, player),
            now.home.contains(player) ? now.home.indexOf(player) + 1 : -5,
            now.bitten[player], now.moved[player]};
        return answers[what];
    }

    int bite(int player, int index, int what) {
        if (!in(0, player, 3) || !in(0, index, now.held.get(player).size() - 1)) {
            return -1;
        }
        if (!in(0, what, 3)) {
            return -2;
        }
        BiteOf bite = now.held.get(player).get(index);
        int mask = bite.heldBy.stream().mapToInt(holder -> 1 << holder).sum();
        int[] answers = {bite.size, bite.heldBy.size() - 1, bite.from, mask};
        return answers[what];
    }

    int snakeOf(int number, int what) {
        SnakeOnBoard snake = now.snakes.get(number);
        if (snake == null) {
            return -1;
        }
        if (!in(0, what, 3)) {
            return -2;
        }
        int[] answers = {snake.head, snake.tail, snake.sleep, snake.bites};
        return answers[what];
    }

    int square(int square, int what) {
        if (!in(0, square, 60) || !in(0, what, 2)) {
            return -2;
        }
        int answer = what == 1 ? -5 : 0;
        for (int player = 0; what == 0 && player < 4; player++) {
            answer += now.square[player] == square ? 1 << player : 0;
        }
        for (Map.Entry<Integer, SnakeOnBoard> entry : now.snakes.entrySet()) {
            if (what == 1 && entry.getValue().head == square) {
                answer = entry.getKey();
            }
            if (what == 2 && entry.getValue().tail == square) {
                answer++;
            }
        }
        return answer;
    }

    int count(int what) {
        if (!in(0, what, 12)) {
            return -2;
        }
        int held = now.held.stream().mapToInt(List::size).sum();
        int coins = now.coins[0] + now.coins[1] + now.coins[2] + now.coins[3];
        int[] answers = {now.turns, now.turn, 4 - now.home.size(), now.snakes.size(), held, now.bites, now.sales,
            coins, now.settings[0], now.settings[1], now.settings[2], history.size(), text.length()};
        return answers[what];
    }

    int cheapest(int seller, int index) {
        if (!in(0, seller, 3) || !in(0, index, now.held.get(seller).size() - 1)) {
            return -1;
        }
        for (int coins = 0; coins < 100; coins++) {
            for (int buyer = 0; buyer < 4; buyer++) {
                if (why(seller, index, buyer, coins) == 0) {
                    return 100 * buyer + coins;
                }
            }
        }
        return -5;
    }

    int dangers(int player) {
        if (!in(0, player, 3)) {
            return -1;
        }
        if (now.home.contains(player)) {
            return -4;
        }
        int mask = 0;
        for (int dice = 1; dice <= 6; dice++) {
            mask += bites(now, player, go(begin(now, player), dice)) != null ? 1 << dice : 0;
        }
        return mask;
    }

    int fewest(int player, int way) {
        if (!in(0, player, 3)) {
            return -1;
        }
        if (!in(0, way, 1)) {
            return -2;
        }
        Map<Integer, Integer> tails = new HashMap<>();
        now.snakes.values().forEach(snake -> tails.put(snake.head, snake.tail));
        int[] best = new int[61];
        java.util.Arrays.fill(best, 1000);
        best[60] = 0;
        for (int round = 0; round < 61; round++) {
            for (int from = 0; from < 60; from++) {
                for (int dice = 1; dice <= 6; dice++) {
                    int to = go(from, dice);
                    best[from] = Math.min(best[from], 1 + best[tails.getOrDefault(to, to)]);
                }
            }
        }
        int answer = best[begin(now, player)];
        return answer >= 1000 ? -5 : answer;
    }

    int nextHome(int x) {
        if (!in(0, x, 65535)) {
            return -2;
        }
        if (now.home.size() == 4) {
            return -4;
        }
        Model other = new Model();
        other.now = now.copy();
        long drawn = x;
        for (int turn = 0; turn < 200; turn++) {
            drawn = (25173 * drawn + 13849) & 0xFFFF;
            turnIn(other.now, (int) (1 + drawn / 10923));
            if (other.now.home.size() > now.home.size()) {
                return other.now.home.get(now.home.size());
            }
        }
        return -5;
    }

    double progress(int player) {
        return in(0, player, 3) ? begin(now, player) / 60.0 : 0.0;
    }
}
