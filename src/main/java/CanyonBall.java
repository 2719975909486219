/**
 * A canyon between two walls, a ball that bounces, and players whose calls come back late.
 * What each method does is promised in the document ../shared/DOC.md.
 */
public final class CanyonBall {
    public static final int NONE = -1;

    private static final int PLAYERS = 4;
    private static final int WALLS = 2;
    private static final int LEFT_WALL = 0;
    private static final int RIGHT_WALL = 1;
    private static final int MAX_WORD = 9;
    private static final int MAX_WALK = 9;
    private static final int MAX_SPEED = 9;
    private static final int MAX_PASS = 99;
    private static final int MAX_CLOCK = 99999;
    private static final int MAX_WAIT = 60;
    private static final int MAX_ECHOES_OF_PLAYER = 6;

    private static final int SETTINGS = 3;
    private static final int LAST_PLACE = 0;
    private static final int SOUND_SPEED = 1;
    private static final int MORE_TURNS = 2;
    private static final int[] LEAST_VALUES = {8, 1, 0};
    private static final int[] MOST_VALUES = {40, 9, 5};
    private static final int[] FIRST_VALUES = {12, 3, 2};

    private static final int PLACE = 0;
    private static final int CAUGHT = 1;
    private static final int CALLS = 2;
    private static final int UNDER_WAY = 3;
    private static final int ANSWERED = 4;
    private static final int CLASHED = 5;
    private static final int LOST = 6;
    private static final int PLAYER_PROPERTIES = 7;

    private static final int ECHO_PROPERTIES = 6;
    private static final int BALL_PROPERTIES = 3;
    private static final int COUNTS = 12;
    private static final int SAVED_STATES = 11;
    private static final int FIRST_CODE = 33;
    private static final int LAST_CODE = 126;
    private static final int SLOTS = 2;
    private static final long FIRST_HASH = 3467L;

    private final Canyon now = new Canyon();
    private final History history = new History();
    private final Canyon[] slots = new Canyon[SLOTS];
    private final boolean[] isKept = new boolean[SLOTS];
    private final TurnText text = new TurnText();
    private final Ball scratchBall = new Ball();

    public CanyonBall() {
        for (int i = 0; i < SLOTS; i++) {
            slots[i] = new Canyon();
        }
    }

    // ---- players, the ball

    public int call(int player, int word) throws IndexOutOfBoundsException, IllegalArgumentException {
        checkPlayer(player);
        checkRange(word, 0, MAX_WORD);
        history.save(now);
        return now.sendEchoes(player, word);
    }

    public int walk(int player, int by) throws IndexOutOfBoundsException, IllegalArgumentException {
        checkPlayer(player);
        checkRange(by, -MAX_WALK, MAX_WALK);
        history.save(now);
        return now.movePlayer(player, by);
    }

    public int throwBall(int place, int speed, boolean isRight) throws IllegalArgumentException {
        checkRange(place, 0, now.lastPlace());
        checkRange(speed, 1, MAX_SPEED);
        history.save(now);
        int previous = now.ball.place;
        now.ball.place = place;
        now.ball.speed = speed;
        now.ball.isRight = isRight;
        return previous;
    }

    public int set(int setting, int value)
            throws IndexOutOfBoundsException, IllegalArgumentException, IllegalStateException {
        checkSetting(setting);
        checkRange(value, LEAST_VALUES[setting], MOST_VALUES[setting]);
        if (setting == LAST_PLACE && value < now.furthestPlace()) {
            throw new IllegalStateException("something is beyond that place");
        }
        history.save(now);
        int previous = now.settings[setting];
        now.settings[setting] = value;
        return previous;
    }

    public int pass(int turns) throws IllegalArgumentException, IllegalStateException {
        checkRange(turns, 1, MAX_PASS);
        if (!now.hasTimeFor(turns)) {
            throw new IllegalStateException("the clock would be above its end");
        }
        history.save(now);
        return now.goTurns(turns);
    }

    // ---- texts, snapshots

    public int append(int code) throws IllegalArgumentException, IllegalStateException {
        checkRange(code, FIRST_CODE, LAST_CODE);
        if (text.isFull()) {
            throw new IllegalStateException("the buffer is full");
        }
        text.add(code);
        return text.length;
    }

    public int clearBuffer() {
        int previous = text.length;
        text.length = 0;
        return previous;
    }

    public int firstError() {
        return text.errorIndex();
    }

    public int run() throws IllegalArgumentException {
        if (!text.isTurns()) {
            throw new IllegalArgumentException("the buffer does not tell turns");
        }
        history.save(now);
        int done = 0;
        for (int at = 0; at < text.length; at++) {
            if (text.startsOrder(at)) {
                if (!doOrder(at)) {
                    break;
                }
                done++;
            }
        }
        text.length = 0;
        return done;
    }

    public int keep(int slot) throws IllegalArgumentException {
        checkRange(slot, 0, SLOTS - 1);
        slots[slot].copyFrom(now);
        isKept[slot] = true;
        return now.clock;
    }

    public int goBack(int slot) throws IllegalArgumentException, IllegalStateException {
        checkRange(slot, 0, SLOTS - 1);
        if (!isKept[slot]) {
            throw new IllegalStateException("no snapshot in this slot");
        }
        history.save(now);
        now.copyFrom(slots[slot]);
        return now.clock;
    }

    public int undo() throws IllegalStateException {
        if (history.size <= 0) {
            throw new IllegalStateException("no saved state");
        }
        history.restoreLatest(now);
        return history.size;
    }

    // ---- looks; nothing is changed

    public int playerOf(int player, int what) throws IndexOutOfBoundsException, IllegalArgumentException {
        checkPlayer(player);
        checkRange(what, 0, PLAYER_PROPERTIES - 1);
        return now.playerNumber(player, what);
    }

    public int echoOf(int rank, int what) throws IllegalArgumentException {
        if (rank < 0) {
            throw new IllegalArgumentException("a rank is at least 0");
        }
        checkRange(what, 0, ECHO_PROPERTIES - 1);
        return now.echoNumber(rank, what);
    }

    public int count(int what) throws IllegalArgumentException {
        checkRange(what, 0, COUNTS - 1);
        return countNumber(what);
    }

    public int setting(int setting) throws IndexOutOfBoundsException {
        checkSetting(setting);
        return now.settings[setting];
    }

    // ---- what would be; nothing is changed

    public int ballIn(int turns, int what) throws IllegalArgumentException {
        checkRange(turns, 0, MAX_PASS);
        checkRange(what, 0, BALL_PROPERTIES - 1);
        return ballNumber(turns, what);
    }

    public int echoIn(int player, int wall) throws IndexOutOfBoundsException, IllegalArgumentException {
        checkPlayer(player);
        checkRange(wall, 0, WALLS - 1);
        return now.echoTime(now.players[player].place, wall);
    }

    public int wouldClash(int player, int wall) throws IndexOutOfBoundsException, IllegalArgumentException {
        checkPlayer(player);
        checkRange(wall, 0, WALLS - 1);
        return now.newEchoClashes(player, wall) ? 1 : 0;
    }

    public int callIn(int player) throws IndexOutOfBoundsException {
        checkPlayer(player);
        return now.turnsToWait(player);
    }

    public int quietIn() {
        return now.turnsToQuiet();
    }

    public int best() {
        return now.bestPlayer();
    }

    public double answeredShare() {
        return now.shareAnswered();
    }

    public long digest() {
        long hash = FIRST_HASH;
        for (int what = 0; what < COUNTS; what++) {
            hash = mixed(hash, countNumber(what));
        }
        for (int i = 0; i < SETTINGS; i++) {
            hash = mixed(hash, now.settings[i]);
        }
        for (int player = 0; player < PLAYERS; player++) {
            hash = mixedWithPlayer(hash, player);
        }
        for (int rank = 0; rank < now.echoCount; rank++) {
            for (int what = 0; what < ECHO_PROPERTIES; what++) {
                hash = mixed(hash, now.echoNumber(rank, what));
            }
        }
        hash = mixedWithBall(hash, 7);
        hash = mixedWithBall(hash, 50);
        hash = mixed(hash, now.turnsToQuiet());
        hash = mixed(hash, now.bestPlayer());
        hash = mixed(hash, bitsOf(now.shareAnswered()));
        for (int slot = 0; slot < SLOTS; slot++) {
            hash = mixed(hash, isKept[slot] ? 1 : 0);
        }
        hash = mixed(hash, text.length);
        for (int i = 0; i < text.length; i++) {
            hash = mixed(hash, text.codeAt(i));
        }
        return hash;
    }

    // ---- what the calls above are made of

    private static void checkPlayer(int player) {
        if (player < 0 || player >= PLAYERS) {
            throw new IndexOutOfBoundsException("no such player");
        }
    }

    private static void checkSetting(int setting) {
        if (setting < 0 || setting >= SETTINGS) {
            throw new IndexOutOfBoundsException("no such setting");
        }
    }

    private static void checkRange(int value, int least, int most) {
        if (value < least || value > most) {
            throw new IllegalArgumentException("an argument is out of range");
        }
    }

    /** False if the order is refused, or if its method would throw an exception. */
    private boolean doOrder(int at) {
        switch (text.codeAt(at)) {
            case 'c':
                return now.sendEchoes(text.digitAt(at + 1), text.digitAt(at + 3)) != NONE;
            case 'm':
                return now.movePlayer(text.digitAt(at + 1), text.stepsAt(at + 2)) != NONE;
            default:
                int turns = text.numberAt(at + 1);
                if (!now.hasTimeFor(turns)) {
                    return false;
                }
                now.goTurns(turns);
                return true;
        }
    }

    private int countNumber(int what) {
        return what == SAVED_STATES ? history.size : now.number(what);
    }

    private int ballNumber(int turns, int what) {
        if (what == 1) {
            return now.ball.unfoldedPlaceIn(turns, now.lastPlace());
        }
        scratchBall.copyFrom(now.ball);
        for (int i = 0; i < turns; i++) {
            scratchBall.goTurn(now.lastPlace());
        }
        return what == 0 ? scratchBall.place : scratchBall.rightNumber();
    }

    private static long mixed(long hash, long value) {
        return 31L * hash + value;
    }

    private long mixedWithPlayer(long hash, int player) {
        long mix = hash;
        for (int what = 0; what < PLAYER_PROPERTIES; what++) {
            mix = mixed(mix, now.playerNumber(player, what));
        }
        for (int wall = 0; wall < WALLS; wall++) {
            mix = mixed(mix, now.echoTime(now.players[player].place, wall));
            mix = mixed(mix, now.newEchoClashes(player, wall) ? 1 : 0);
        }
        return mixed(mix, now.turnsToWait(player));
    }

    private long mixedWithBall(long hash, int turns) {
        long mix = hash;
        for (int what = 0; what < BALL_PROPERTIES; what++) {
            mix = mixed(mix, ballNumber(turns, what));
        }
        return mix;
    }

    /**
     * The bits of a share from 0.0 to 1.0, as Double.doubleToLongBits tells them: that function is
     * not in the language that this file keeps to. Doubling is exact, so no bit is lost.
     */
    private static long bitsOf(double share) {
        if (share <= 0.0) {
            return 0L;
        }
        double scaled = share;
        int exponent = 1023;
        while (scaled < 1.0 && exponent > 1) {
            scaled = scaled * 2.0;
            exponent--;
        }
        long fraction = (long) ((scaled - 1.0) * 4503599627370496.0);
        return ((long) exponent << 52) | fraction;
    }

    /** The ball, which bounces between the place 0 and a last place that its callers tell. */
    private static final class Ball {
        int place;
        int speed = 1;
        boolean isRight = true;

        void copyFrom(Ball other) {
            place = other.place;
            speed = other.speed;
            isRight = other.isRight;
        }

        int rightNumber() {
            return isRight ? 1 : 0;
        }

        void goTurn(int lastPlace) {
            for (int i = 0; i < speed; i++) {
                goStep(lastPlace);
            }
        }

        private void goStep(int lastPlace) {
            if (isRight ? place >= lastPlace : place <= 0) {
                isRight = !isRight;
            }
            place += isRight ? 1 : -1;
        }

        /** Behind the right wall lies the canyon once more, mirrored, in which the ball goes on to the right. */
        int unfoldedPlaceIn(int turns, int lastPlace) {
            int period = 2 * Math.max(lastPlace, 1);
            int start = isRight ? place : period - place;
            int end = (start + speed * turns) % period;
            return end <= lastPlace ? end : period - end;
        }

        void followWord(int word) {
            switch (word % 3) {
                case 0:
                    isRight = !isRight;
                    break;
                case 1:
                    speed = Math.min(speed + 1, MAX_SPEED);
                    break;
                default:
                    speed = Math.max(speed - 1, 1);
                    break;
            }
        }
    }

    private static final class Player {
        int place;
        int caught;
        int calls;
        int answered;
        int clashed;
        int lost;

        Player(int place) {
            this.place = place;
        }

        void copyFrom(Player other) {
            place = other.place;
            caught = other.caught;
            calls = other.calls;
            answered = other.answered;
            clashed = other.clashed;
            lost = other.lost;
        }

        boolean isBetterThan(Player other) {
            return caught > other.caught || (caught == other.caught && answered > other.answered);
        }
    }

    private static final class Echo {
        int player;
        int place;
        int word;
        int due;
        int wall;

        void copyFrom(Echo other) {
            player = other.player;
            place = other.place;
            word = other.word;
            due = other.due;
            wall = other.wall;
        }

        boolean comesTo(int somePlace, int clock) {
            return place == somePlace && due == clock;
        }
    }

    /** All that a snapshot or a saved state holds. */
    private static final class Canyon {
        int clock;
        int refused;
        int echoCount;
        final int[] settings = new int[SETTINGS];
        final Ball ball = new Ball();
        final Player[] players = new Player[PLAYERS];
        // The first echoCount ones are under way, in the order in which they are told; the rest is spare.
        final Echo[] echoes = new Echo[PLAYERS * MAX_ECHOES_OF_PLAYER];

        Canyon() {
            for (int i = 0; i < SETTINGS; i++) {
                settings[i] = FIRST_VALUES[i];
            }
            for (int i = 0; i < PLAYERS; i++) {
                players[i] = new Player(2 * i + 2);
            }
            for (int i = 0; i < echoes.length; i++) {
                echoes[i] = new Echo();
            }
        }

        void copyFrom(Canyon other) {
            clock = other.clock;
            refused = other.refused;
            echoCount = other.echoCount;
            ball.copyFrom(other.ball);
            for (int i = 0; i < SETTINGS; i++) {
                settings[i] = other.settings[i];
            }
            for (int i = 0; i < PLAYERS; i++) {
                players[i].copyFrom(other.players[i]);
            }
            for (int i = 0; i < echoCount; i++) {
                echoes[i].copyFrom(other.echoes[i]);
            }
        }

        int lastPlace() {
            return settings[LAST_PLACE];
        }

        /** The furthest place to the right at which something is, or to which an echo will come. */
        int furthestPlace() {
            int furthest = ball.place;
            for (int i = 0; i < PLAYERS; i++) {
                furthest = Math.max(furthest, players[i].place);
            }
            for (int i = 0; i < echoCount; i++) {
                furthest = Math.max(furthest, echoes[i].place);
            }
            return furthest;
        }

        boolean hasTimeFor(int turns) {
            return clock + turns <= MAX_CLOCK;
        }

        int echoTime(int place, int wall) {
            int distance = wall == LEFT_WALL ? place : lastPlace() - place;
            int soundSpeed = Math.max(settings[SOUND_SPEED], 1);
            int underWay = (2 * distance + soundSpeed - 1) / soundSpeed;
            return Math.max(underWay + settings[MORE_TURNS], 1);
        }

        int echoesOf(int player) {
            int found = 0;
            for (int i = 0; i < echoCount; i++) {
                if (echoes[i].player == player) {
                    found++;
                }
            }
            return found;
        }

        int sendEchoes(int player, int word) {
            if (echoesOf(player) + WALLS > MAX_ECHOES_OF_PLAYER) {
                refused++;
                return NONE;
            }
            players[player].calls++;
            for (int wall = 0; wall < WALLS; wall++) {
                addEcho(player, word, wall);
            }
            int place = players[player].place;
            return Math.min(echoTime(place, LEFT_WALL), echoTime(place, RIGHT_WALL));
        }

        private void addEcho(int player, int word, int wall) {
            if (echoCount >= echoes.length) {
                return;
            }
            Echo echo = echoes[echoCount];
            echo.player = player;
            echo.place = players[player].place;
            echo.word = word;
            echo.wall = wall;
            echo.due = clock + echoTime(echo.place, wall);
            int at = echoCount;
            // An older echo that is due at once stays ahead of this one.
            while (at > 0 && echoes[at - 1].due > echo.due) {
                echoes[at] = echoes[at - 1];
                at--;
            }
            echoes[at] = echo;
            echoCount++;
        }

        int movePlayer(int player, int by) {
            int place = players[player].place + by;
            if (place < 0 || place > lastPlace()) {
                refused++;
                return NONE;
            }
            players[player].place = place;
            return place;
        }

        int goTurns(int turns) {
            int caught = 0;
            for (int i = 0; i < turns; i++) {
                caught += goTurn();
            }
            return caught;
        }

        /**
         * Answers how often the ball is caught. The echoes need not be sorted by places here: at most
         * one echo is answered at the place of the ball, and a catch leaves the ball at its place.
         */
        private int goTurn() {
            clock++;
            ball.goTurn(lastPlace());
            int caught = 0;
            int back = 0;
            while (back < echoCount && echoes[back].due <= clock) {
                if (isCatch(back)) {
                    caught++;
                }
                back++;
            }
            dropFirstEchoes(back);
            return caught;
        }

        /** Counts how an echo comes back, and leads the ball if this catches it. */
        private boolean isCatch(int rank) {
            Echo echo = echoes[rank];
            Player caller = players[echo.player];
            if (echoClashes(rank)) {
                caller.clashed++;
                return false;
            }
            if (caller.place != echo.place) {
                caller.lost++;
                return false;
            }
            caller.answered++;
            if (ball.place != echo.place) {
                return false;
            }
            caller.caught++;
            ball.followWord(echo.word);
            return true;
        }

        private void dropFirstEchoes(int dropped) {
            for (int i = dropped; i < echoCount; i++) {
                Echo spare = echoes[i - dropped];
                echoes[i - dropped] = echoes[i];
                echoes[i] = spare;
            }
            echoCount -= dropped;
        }

        private boolean echoClashes(int rank) {
            Echo echo = echoes[rank];
            for (int i = 0; i < echoCount; i++) {
                if (i != rank && echoes[i].comesTo(echo.place, echo.due)) {
                    return true;
                }
            }
            return false;
        }

        private boolean isEchoDue(int place, int turns) {
            for (int i = 0; i < echoCount; i++) {
                if (echoes[i].comesTo(place, clock + turns)) {
                    return true;
                }
            }
            return false;
        }

        boolean newEchoClashes(int player, int wall) {
            int place = players[player].place;
            int turns = echoTime(place, wall);
            return turns == echoTime(place, WALLS - 1 - wall) || isEchoDue(place, turns);
        }

        int turnsToWait(int player) {
            int place = players[player].place;
            int left = echoTime(place, LEFT_WALL);
            int right = echoTime(place, RIGHT_WALL);
            if (left == right) {
                return NONE;
            }
            for (int wait = 0; wait <= MAX_WAIT; wait++) {
                if (meetsBallAlone(place, wait + left) || meetsBallAlone(place, wait + right)) {
                    return wait;
                }
            }
            return NONE;
        }

        private boolean meetsBallAlone(int place, int turns) {
            return ball.unfoldedPlaceIn(turns, lastPlace()) == place && !isEchoDue(place, turns);
        }

        int turnsToQuiet() {
            return echoCount > 0 ? echoes[echoCount - 1].due - clock : 0;
        }

        int bestPlayer() {
            int best = 0;
            for (int i = 1; i < PLAYERS; i++) {
                if (players[i].isBetterThan(players[best])) {
                    best = i;
                }
            }
            return best;
        }

        double shareAnswered() {
            int answered = sumOfPlayers(ANSWERED);
            int back = answered + sumOfPlayers(CLASHED) + sumOfPlayers(LOST);
            return back > 0 ? (double) answered / (double) back : 1.0;
        }

        int playerNumber(int player, int what) {
            switch (what) {
                case PLACE:
                    return players[player].place;
                case CAUGHT:
                    return players[player].caught;
                case CALLS:
                    return players[player].calls;
                case UNDER_WAY:
                    return echoesOf(player);
                case ANSWERED:
                    return players[player].answered;
                case CLASHED:
                    return players[player].clashed;
                default:
                    return players[player].lost;
            }
        }

        private int sumOfPlayers(int what) {
            int sum = 0;
            for (int i = 0; i < PLAYERS; i++) {
                sum += playerNumber(i, what);
            }
            return sum;
        }

        int echoNumber(int rank, int what) {
            if (rank < 0 || rank >= echoCount) {
                return NONE;
            }
            Echo echo = echoes[rank];
            switch (what) {
                case 0:
                    return echo.player;
                case 1:
                    return echo.place;
                case 2:
                    return echo.word;
                case 3:
                    return echo.due - clock;
                case 4:
                    return echo.wall;
                default:
                    return echoClashes(rank) ? 1 : 0;
            }
        }

        int number(int what) {
            switch (what) {
                case 0:
                    return clock;
                case 1:
                    return ball.place;
                case 2:
                    return ball.speed;
                case 3:
                    return ball.rightNumber();
                case 4:
                    return echoCount;
                case 5:
                    return WALLS * sumOfPlayers(CALLS);
                case 6:
                    return sumOfPlayers(ANSWERED);
                case 7:
                    return sumOfPlayers(CLASHED);
                case 8:
                    return sumOfPlayers(LOST);
                case 9:
                    return sumOfPlayers(CAUGHT);
                default:
                    return refused;
            }
        }
    }

    /** The saved states, the oldest one first. */
    private static final class History {
        private static final int MOST = 6;

        final Canyon[] states = new Canyon[MOST];
        int size;

        History() {
            for (int i = 0; i < MOST; i++) {
                states[i] = new Canyon();
            }
        }

        void save(Canyon canyon) {
            if (size >= MOST) {
                dropOldest();
            }
            states[size].copyFrom(canyon);
            size++;
        }

        private void dropOldest() {
            Canyon oldest = states[0];
            for (int i = 1; i < MOST; i++) {
                states[i - 1] = states[i];
            }
            // Its object serves again for the next state, so that no call makes a new one.
            states[MOST - 1] = oldest;
            size = MOST - 1;
        }

        void restoreLatest(Canyon canyon) {
            if (size <= 0) {
                return;
            }
            size--;
            canyon.copyFrom(states[size]);
        }
    }

    /** The buffer, and the reading of turns as a text. */
    private static final class TurnText {
        private static final int MOST = 60;

        // What has been read last, and so what may come next.
        private static final int ERROR = -1;
        private static final int START = 0;
        private static final int CALL = 1;
        private static final int CALLER = 2;
        private static final int EQUALS = 3;
        private static final int WALK = 4;
        private static final int WALKER = 5;
        private static final int SIGN = 6;
        private static final int TURNS = 7;
        private static final int FIRST_DIGIT = 8;
        private static final int ORDER = 9;

        final int[] codes = new int[MOST];
        int length;

        boolean isFull() {
            return length >= MOST;
        }

        void add(int code) {
            if (length < MOST) {
                codes[length] = code;
                length++;
            }
        }

        int codeAt(int index) {
            return index >= 0 && index < length ? codes[index] : NONE;
        }

        int errorIndex() {
            int state = START;
            for (int i = 0; i < length; i++) {
                state = stateAfter(state, codes[i]);
                if (state == ERROR) {
                    return i;
                }
            }
            return length;
        }

        boolean isTurns() {
            int state = START;
            for (int i = 0; i < length; i++) {
                state = stateAfter(state, codes[i]);
            }
            return state == ORDER || state == FIRST_DIGIT;
        }

        private static int stateAfter(int state, int code) {
            switch (state) {
                case START:
                    return stateAfterStart(code);
                case CALL:
                    return isPlayer(code) ? CALLER : ERROR;
                case CALLER:
                    return code == '=' ? EQUALS : ERROR;
                case EQUALS:
                    return isDigit(code) ? ORDER : ERROR;
                case WALK:
                    return isPlayer(code) ? WALKER : ERROR;
                case WALKER:
                    return code == '+' || code == '-' ? SIGN : ERROR;
                case SIGN:
                    return isDigit(code) && code != '0' ? ORDER : ERROR;
                case TURNS:
                    return isDigit(code) && code != '0' ? FIRST_DIGIT : ERROR;
                case FIRST_DIGIT:
                    return isDigit(code) ? ORDER : stateAfterOrder(code);
                case ORDER:
                    return stateAfterOrder(code);
                default:
                    return ERROR;
            }
        }

        private static int stateAfterStart(int code) {
            switch (code) {
                case 'c':
                    return CALL;
                case 'm':
                    return WALK;
                case 't':
                    return TURNS;
                default:
                    return ERROR;
            }
        }

        private static int stateAfterOrder(int code) {
            return code == ';' ? START : ERROR;
        }

        private static boolean isPlayer(int code) {
            return code >= '0' && code < '0' + PLAYERS;
        }

        private static boolean isDigit(int code) {
            return code >= '0' && code <= '9';
        }

        int digitAt(int index) {
            return codeAt(index) - '0';
        }

        int stepsAt(int index) {
            int places = digitAt(index + 1);
            return codeAt(index) == '-' ? -places : places;
        }

        int numberAt(int index) {
            int number = digitAt(index);
            return isDigit(codeAt(index + 1)) ? 10 * number + digitAt(index + 1) : number;
        }

        boolean startsOrder(int index) {
            return index == 0 || codeAt(index - 1) == ';';
        }
    }
}
