import java.util.ArrayDeque;
import java.util.ArrayList;
import java.util.Comparator;
import java.util.Deque;
import java.util.List;
import java.util.regex.Pattern;

/**
 * The document once more, as plainly as the Java library allows and with other means than CanyonBall: states that are
 * never changed in place, a ball that only steps, texts by a pattern. Its answers throw as the document says.
 */
final class Model {
    private static final String ORDER = "(c[0-3]=[0-9]|m[0-3][+-][1-9]|t[1-9][0-9]?)";
    private static final Pattern TURNS = Pattern.compile(ORDER + "(;" + ORDER + ")*");
    // Behind any beginning of turns as a text one of these makes it whole.
    private static final String[] ENDS = {"", "0=0", "=0", "0", "0+1", "+1", "1", "t1"};
    private static final int[] LEAST = {8, 1, 0};
    private static final int[] MOST = {40, 9, 5};

    static final class Echo {
        final int player;
        final int place;
        final int word;
        final int due;
        final int order;
        final int wall;

        Echo(int player, int place, int word, int due, int order, int wall) {
            this.player = player;
            this.place = place;
            this.word = word;
            this.due = due;
            this.order = order;
            this.wall = wall;
        }

        boolean clashesWith(Echo other) {
            return this != other && place == other.place && due == other.due;
        }
    }

    static final class State {
        int clock = 0;
        int ball = 0;
        int speed = 1;
        boolean right = true;
        int refused = 0;
        int calls = 0;
        int[] settings = {12, 3, 2};
        // By player, the properties of playerOf; number 3 is left out here.
        int[][] players = {{2, 0, 0, 0, 0, 0, 0}, {4, 0, 0, 0, 0, 0, 0}, {6, 0, 0, 0, 0, 0, 0}, {8, 0, 0, 0, 0, 0, 0}};
        List<Echo> echoes = new ArrayList<>();

        State copy() {
            State other = new State();
            other.clock = clock;
            other.ball = ball;
            other.speed = speed;
            other.right = right;
            other.refused = refused;
            other.calls = calls;
            other.settings = settings.clone();
            for (int i = 0; i < 4; i++) {
                other.players[i] = players[i].clone();
            }
            other.echoes = new ArrayList<>(echoes);
            return other;
        }

        void step() {
            int next = right ? ball + 1 : ball - 1;
            if (next < 0 || next > settings[0]) {
                right = !right;
                next = right ? ball + 1 : ball - 1;
            }
            ball = next;
        }

        void moveBall() {
            for (int i = 0; i < speed; i++) {
                step();
            }
        }
    }

    private State now = new State();
    private final Deque<State> saved = new ArrayDeque<>();
    private final State[] slots = new State[2];
    private String buffer = "";

    private static void need(boolean holds, String exception) {
        if (!holds) {
            switch (exception) {
                case "index":
                    throw new IndexOutOfBoundsException();
                case "state":
                    throw new IllegalStateException();
                default:
                    throw new IllegalArgumentException();
            }
        }
    }

    private static boolean within(int value, int least, int most) {
        return value >= least && value <= most;
    }

    private void save() {
        saved.addLast(now);
        if (saved.size() > 6) {
            saved.removeFirst();
        }
        now = now.copy();
    }

    private int time(int place, int wall) {
        int distance = wall == 0 ? place : now.settings[0] - place;
        int turns = 0;
        while (turns * now.settings[1] < 2 * distance) {
            turns++;
        }
        turns += now.settings[2];
        return turns == 0 ? 1 : turns;
    }

    private List<Echo> echoes() {
        List<Echo> sorted = new ArrayList<>(now.echoes);
        sorted.sort(Comparator.<Echo>comparingInt(e -> e.due).thenComparingInt(e -> e.order).thenComparingInt(e -> e.wall));
        return sorted;
    }

    int call(int player, int word) {
        need(within(player, 0, 3), "index");
        need(within(word, 0, 9), "argument");
        save();
        return doCall(player, word);
    }

    private int doCall(int player, int word) {
        if (now.echoes.stream().filter(e -> e.player == player).count() > 4) {
            now.refused++;
            return -1;
        }
        int place = now.players[player][0];
        now.players[player][2]++;
        now.calls++;
        int left = time(place, 0);
        int right = time(place, 1);
        // The right one first: echoes() sorts them.
        now.echoes.add(new Echo(player, place, word, now.clock + right, now.calls, 1));
        now.echoes.add(new Echo(player, place, word, now.clock + left, now.calls, 0));
        return left < right ? left : right;
    }

    int walk(int player, int by) {
        need(within(player, 0, 3), "index");
        need(within(by, -9, 9), "argument");
        save();
        return doWalk(player, by);
    }

    private int doWalk(int player, int by) {
        int place = now.players[player][0] + by;
        if (!within(place, 0, now.settings[0])) {
            now.refused++;
            return -1;
        }
        now.players[player][0] = place;
        return place;
    }

    int throwBall(int place, int speed, boolean right) {
        need(within(place, 0, now.settings[0]) && within(speed, 1, 9), "argument");
        save();
        int before = now.ball;
        now.ball = place;
        now.speed = speed;
        now.right = right;
        return before;
    }

    int set(int setting, int value) {
        need(within(setting, 0, 2), "index");
        need(within(value, LEAST[setting], MOST[setting]), "argument");
        if (setting == 0) {
            need(value >= now.ball, "state");
            for (int[] player : now.players) {
                need(value >= player[0], "state");
            }
            for (Echo echo : now.echoes) {
                need(value >= echo.place, "state");
            }
        }
        save();
        int before = now.settings[setting];
        now.settings[setting] = value;
        return before;
    }

    int pass(int turns) {
        need(within(turns, 1, 99), "argument");
        need(now.clock + turns <= 99999, "state");
        save();
        return doPass(turns);
    }

    private int doPass(int turns) {
        int caught = 0;
        for (int i = 0; i < turns; i++) {
            caught += turn();
        }
        return caught;
    }

    private int turn() {
        now.clock++;
        now.moveBall();
        int caught = 0;
        for (int place = 0; place <= now.settings[0]; place++) {
            List<Echo> back = new ArrayList<>();
            for (Echo echo : now.echoes) {
                if (echo.due == now.clock && echo.place == place) {
                    back.add(echo);
                }
            }
            now.echoes.removeAll(back);
            for (Echo echo : back) {
                caught += comeBack(echo, back.size() > 1);
            }
        }
        return caught;
    }

    private int comeBack(Echo echo, boolean clashes) {
        int[] player = now.players[echo.player];
        if (clashes) {
            player[5]++;
            return 0;
        }
        if (player[0] != echo.place) {
            player[6]++;
            return 0;
        }
        player[4]++;
        if (now.ball != echo.place) {
            return 0;
        }
        player[1]++;
        if ("0369".indexOf('0' + echo.word) >= 0) {
            now.right = !now.right;
        } else if ("147".indexOf('0' + echo.word) >= 0) {
            now.speed = now.speed == 9 ? 9 : now.speed + 1;
        } else {
            now.speed = now.speed == 1 ? 1 : now.speed - 1;
        }
        return 1;
    }

    int append(int code) {
        need(within(code, 33, 126), "argument");
        need(buffer.length() < 60, "state");
        buffer = buffer + (char) code;
        return buffer.length();
    }

    int clearBuffer() {
        int before = buffer.length();
        buffer = "";
        return before;
    }

    int firstError() {
        for (int i = 0; i < buffer.length(); i++) {
            if (!canBegin(buffer.substring(0, i + 1))) {
                return i;
            }
        }
        return buffer.length();
    }

    private static boolean canBegin(String text) {
        for (String end : ENDS) {
            if (TURNS.matcher(text + end).matches()) {
                return true;
            }
        }
        return false;
    }

    int run() {
        need(TURNS.matcher(buffer).matches(), "argument");
        save();
        int done = 0;
        for (String order : buffer.split(";")) {
            if (!doOrder(order)) {
                break;
            }
            done++;
        }
        buffer = "";
        return done;
    }

    private boolean doOrder(String order) {
        if (order.startsWith("t")) {
            int turns = Integer.parseInt(order.substring(1));
            if (now.clock + turns > 99999) {
                return false;
            }
            doPass(turns);
            return true;
        }
        int player = order.charAt(1) - '0';
        if (order.startsWith("c")) {
            return doCall(player, Integer.parseInt(order.substring(3))) != -1;
        }
        return doWalk(player, Integer.parseInt(order.substring(2))) != -1;
    }

    int keep(int slot) {
        need(within(slot, 0, 1), "argument");
        slots[slot] = now.copy();
        return now.clock;
    }

    int goBack(int slot) {
        need(within(slot, 0, 1), "argument");
        need(slots[slot] != null, "state");
        save();
        now = slots[slot].copy();
        return now.clock;
    }

    int undo() {
        need(!saved.isEmpty(), "state");
        now = saved.removeLast();
        return saved.size();
    }

    int playerOf(int player, int what) {
        need(within(player, 0, 3), "index");
        need(within(what, 0, 6), "argument");
        return what == 3 ? (int) now.echoes.stream().filter(e -> e.player == player).count() : now.players[player][what];
    }

    int echoOf(int rank, int what) {
        need(rank >= 0 && within(what, 0, 5), "argument");
        List<Echo> told = echoes();
        if (rank >= told.size()) {
            return -1;
        }
        Echo echo = told.get(rank);
        boolean clashes = told.stream().anyMatch(echo::clashesWith);
        return new int[] {echo.player, echo.place, echo.word, echo.due - now.clock, echo.wall, clashes ? 1 : 0}[what];
    }

    private int sum(int what) {
        int sum = 0;
        for (int[] player : now.players) {
            sum += player[what];
        }
        return sum;
    }

    int count(int what) {
        need(within(what, 0, 11), "argument");
        return new int[] {now.clock, now.ball, now.speed, now.right ? 1 : 0, now.echoes.size(), 2 * sum(2), sum(4), sum(5),
            sum(6), sum(1), now.refused, saved.size()}[what];
    }

    int setting(int setting) {
        need(within(setting, 0, 2), "index");
        return now.settings[setting];
    }

    int ballIn(int turns, int what) {
        need(within(turns, 0, 99) && within(what, 0, 2), "argument");
        State later = now.copy();
        for (int i = 0; i < turns; i++) {
            later.moveBall();
        }
        return what < 2 ? later.ball : later.right ? 1 : 0;
    }

    int echoIn(int player, int wall) {
        need(within(player, 0, 3), "index");
        need(within(wall, 0, 1), "argument");
        return time(now.players[player][0], wall);
    }

    private boolean isFree(int place, int clock) {
        return now.echoes.stream().noneMatch(e -> e.place == place && e.due == clock);
    }

    int wouldClash(int player, int wall) {
        need(within(player, 0, 3), "index");
        need(within(wall, 0, 1), "argument");
        int place = now.players[player][0];
        int turns = time(place, wall);
        return isFree(place, now.clock + turns) && turns != time(place, 1 - wall) ? 0 : 1;
    }

    int callIn(int player) {
        need(within(player, 0, 3), "index");
        int place = now.players[player][0];
        int[] times = {time(place, 0), time(place, 1)};
        int least = Integer.MAX_VALUE;
        State later = now.copy();
        for (int turn = 1; turn <= 160; turn++) {
            later.moveBall();
            if (later.ball != place || !isFree(place, now.clock + turn) || times[0] == times[1]) {
                continue;
            }
            for (int time : times) {
                if (within(turn - time, 0, 60)) {
                    least = Math.min(least, turn - time);
                }
            }
        }
        return least == Integer.MAX_VALUE ? -1 : least;
    }

    int quietIn() {
        return now.echoes.stream().mapToInt(e -> e.due - now.clock).max().orElse(0);
    }

    int best() {
        int best = 3;
        // From the last to the first, so that of equal ones the lowest is left.
        for (int i = 2; i >= 0; i--) {
            int[] a = now.players[i];
            int[] b = now.players[best];
            if (a[1] > b[1] || (a[1] == b[1] && a[4] >= b[4])) {
                best = i;
            }
        }
        return best;
    }

    double answeredShare() {
        int back = sum(4) + sum(5) + sum(6);
        return back == 0 ? 1.0 : (double) sum(4) / back;
    }

    long digest() {
        List<Long> list = new ArrayList<>();
        for (int what = 0; what < 12; what++) {
            list.add((long) count(what));
        }
        for (int i = 0; i < 3; i++) {
            list.add((long) setting(i));
        }
        for (int player = 0; player < 4; player++) {
            for (int what = 0; what < 7; what++) {
                list.add((long) playerOf(player, what));
            }
            list.add((long) echoIn(player, 0));
            list.add((long) wouldClash(player, 0));
            list.add((long) echoIn(player, 1));
            list.add((long) wouldClash(player, 1));
            list.add((long) callIn(player));
        }
        for (int rank = 0; rank < now.echoes.size(); rank++) {
            for (int what = 0; what < 6; what++) {
                list.add((long) echoOf(rank, what));
            }
        }
        for (int what = 0; what < 6; what++) {
            list.add((long) ballIn(what < 3 ? 7 : 50, what % 3));
        }
        list.add((long) quietIn());
        list.add((long) best());
        list.add(Double.doubleToLongBits(answeredShare()));
        list.add(slots[0] != null ? 1L : 0L);
        list.add(slots[1] != null ? 1L : 0L);
        list.add((long) buffer.length());
        buffer.chars().forEach(c -> list.add((long) c));
        long hash = 3467;
        for (long v : list) {
            hash = 31 * hash + v;
        }
        return hash;
    }
}
