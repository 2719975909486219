/** 'Terms' of the document, up to the settings: each method has the sentence that it tests above it. */
public final class TermsTest {
    private static final Class<IllegalArgumentException> ARGUMENT = IllegalArgumentException.class;
    private static final Class<IllegalStateException> STATE = IllegalStateException.class;
    private static final int NONE = CanyonBall.NONE;

    private TermsTest() {
    }

    public static void main(String[] args) {
        calls512();
        places();
        walls();
        playersAtFirst();
        severalAtOnePlace();
        ballAtFirst();
        ballAndWalls();
        ballGoesRound();
        echoesOfBothWalls();
        echoTimes();
        echoesComeWhenTold();
        sixEchoesOfEach();
        sixEchoesWhenSomeAreBack();
        ballMovesAheadOfEchoes();
        twoOrMoreClash();
        aTurnApartNoneClash();
        aPlaceApartNoneClash();
        answeredOrLost();
        caughtAtThePlaceOfTheBall();
        wordsTurnAround();
        wordsChangeTheSpeed();
        ballIsSentOnAtOnce();
        ballIsSentOnAtTheWalls();
        settingsAtFirst();
        settingsFromLeastToMost();
        echoesUnderWayAreNotSet();
        notLessThanAPlayer();
        notLessThanTheBall();
        notLessThanAnEcho();
        Check.end();
    }

    /** An object is used for at most 512 calls after it has been made. */
    private static void calls512() {
        CanyonBall x = new CanyonBall();
        for (int i = 0; i < 511; i++) {
            Check.due("call " + i + " of 512", x.pass(99), 0);
        }
        Check.due("the 512th call", x.count(0), 511 * 99);
    }

    /** The canyon has places from 0 to setting 0. */
    private static void places() {
        CanyonBall x = new CanyonBall();
        Check.due("to 0", x.walk(0, -2), 0);
        Check.due("to -1", x.walk(0, -1), NONE);
        Check.due("to -9", x.walk(0, -9), NONE);
        Check.due("still at 0", x.playerOf(0, 0), 0);
        Check.due("to 12", x.walk(3, 4), 12);
        Check.due("to 13", x.walk(3, 1), NONE);
        Check.due("to 21", x.walk(3, 9), NONE);
        Check.due("still at 12", x.playerOf(3, 0), 12);
        x.set(0, 13);
        Check.due("to 13, when it is there", x.walk(3, 1), 13);
        Check.due("to 14", x.walk(3, 1), NONE);
        CanyonBall least = Scenes.canyon(8, 3, 2);
        Check.due("to 9 of 8", least.walk(3, 1), NONE);
        Check.due("at 8 of 8", least.walk(3, 0), 8);
        CanyonBall most = Scenes.canyon(40, 3, 2);
        Check.walkTo(most, 3, 40);
        Check.due("to 41 of 40", most.walk(3, 1), NONE);
    }

    /** The left wall is at the place 0, the right wall at the place setting 0. */
    private static void walls() {
        CanyonBall x = Scenes.canyon(12, 1, 0);
        Check.walkTo(x, 0, 0);
        Check.due("12 places from the right wall", x.echoIn(0, 1), 24);
        Check.walkTo(x, 0, 1);
        Check.due("1 place from the left wall", x.echoIn(0, 0), 2);
        Check.walkTo(x, 0, 12);
        Check.due("12 places from the left wall", x.echoIn(0, 0), 24);
        x.set(0, 13);
        Check.due("1 place from the right wall", x.echoIn(0, 1), 2);
    }

    /** There are the players 0 to 3, who stand at the places 2, 4, 6 and 8 at first. */
    private static void playersAtFirst() {
        CanyonBall x = new CanyonBall();
        int[] places = {2, 4, 6, 8};
        for (int player = 0; player < 4; player++) {
            Check.due("place of " + player, x.playerOf(player, 0), places[player]);
        }
        Check.dueThrow(x, "player -1", IndexOutOfBoundsException.class, () -> x.playerOf(-1, 0));
        Check.dueThrow(x, "player 4", IndexOutOfBoundsException.class, () -> x.playerOf(4, 0));
    }

    /** Several can stand at one place. */
    private static void severalAtOnePlace() {
        for (int place = 0; place <= 12; place++) {
            CanyonBall x = Scenes.allAt(place);
            x.throwBall(place, 1, true);
            for (int player = 0; player < 4; player++) {
                Check.due("place of " + player, x.playerOf(player, 0), place);
            }
            Check.due("none of the walks is refused", x.count(10), 0);
        }
    }

    /** The ball is at a place, at first 0, and has a speed, 1 to 9, at first 1, and goes to the right (at first). */
    private static void ballAtFirst() {
        CanyonBall x = new CanyonBall();
        Check.due("place", x.count(1), 0);
        Check.due("speed", x.count(2), 1);
        Check.due("to the right", x.count(3), 1);
        x.pass(1);
        Check.due("a turn later", x.count(1), 1);
    }

    /**
     * In a turn it makes as many steps as its speed, each to the next place; ahead of a step that would lead it
     * beyond a wall it turns around.
     */
    private static void ballAndWalls() {
        // The last place, the place, the speed, 1 if to the right; then the place and 1 if to the right, a turn later.
        int[][] rows = {
            {12, 10, 1, 1, 11, 1}, {12, 11, 1, 1, 12, 1}, {12, 12, 1, 1, 11, 0}, {12, 12, 1, 0, 11, 0},
            {12, 2, 1, 0, 1, 0}, {12, 1, 1, 0, 0, 0}, {12, 0, 1, 0, 1, 1}, {12, 0, 1, 1, 1, 1},
            {12, 3, 9, 1, 12, 1}, {12, 4, 9, 1, 11, 0}, {12, 9, 9, 0, 0, 0}, {12, 8, 9, 0, 1, 1},
            {12, 12, 9, 1, 3, 0}, {12, 0, 9, 0, 9, 1}, {12, 10, 5, 1, 9, 0}, {12, 2, 5, 0, 3, 1},
            {8, 8, 8, 1, 0, 0}, {8, 0, 8, 0, 8, 1}, {8, 8, 9, 0, 1, 1}, {8, 0, 9, 1, 7, 0},
            {8, 8, 9, 1, 1, 1}, {8, 0, 9, 0, 7, 0}, {8, 1, 9, 0, 8, 1}, {8, 7, 9, 1, 0, 0},
            {40, 31, 9, 1, 40, 1}, {40, 32, 9, 1, 39, 0}, {40, 40, 9, 1, 31, 0}, {40, 39, 1, 1, 40, 1},
        };
        for (int[] row : rows) {
            CanyonBall x = new CanyonBall();
            x.set(0, row[0]);
            x.throwBall(row[1], row[2], row[3] == 1);
            String from = "from " + row[1] + " of " + row[0] + " at " + row[2] + (row[3] == 1 ? " right" : " left");
            Check.due(from + ", step by step", x.ballIn(1, 0), row[4]);
            Check.due(from + ", unfolded", x.ballIn(1, 1), row[4]);
            Check.due(from + ", would go to the right", x.ballIn(1, 2), row[5]);
            x.pass(1);
            Check.due(from + ", place", x.count(1), row[4]);
            Check.due(from + ", goes to the right", x.count(3), row[5]);
            Check.due(from + ", speed", x.count(2), row[2]);
        }
    }

    /** The same, all the way round: once there and back are 2 * setting 0 steps. */
    private static void ballGoesRound() {
        int[] lasts = {8, 12, 13, 40};
        for (int last : lasts) {
            CanyonBall x = new CanyonBall();
            x.set(0, last);
            for (int turn = 1; turn <= 2 * last; turn++) {
                x.pass(1);
                Check.due("turn " + turn + " of " + last, x.count(1), turn <= last ? turn : 2 * last - turn);
                Check.due("right in turn " + turn + " of " + last, x.count(3), turn <= last ? 1 : 0);
            }
            x.pass(1);
            Check.due("once more", x.count(1), 1);
            Check.due("once more to the right", x.count(3), 1);
        }
    }

    /** From each of both walls an echo of it comes back to the place of the call. */
    private static void echoesOfBothWalls() {
        CanyonBall x = new CanyonBall();
        x.call(0, 9);
        x.call(1, 0);
        x.walk(0, 9);
        int[][] want = {{0, 2, 9, 4, 0, 0}, {1, 4, 0, 5, 0, 0}, {1, 4, 0, 8, 1, 0}, {0, 2, 9, 9, 1, 0}};
        for (int rank = 0; rank < 4; rank++) {
            for (int what = 0; what < 6; what++) {
                Check.due("echoOf(" + rank + ", " + what + ")", x.echoOf(rank, what), want[rank][what]);
            }
        }
        Check.due("no fifth one", x.echoOf(4, 0), NONE);
    }

    // The last place, how far sound goes, how many turns more, a place; then the turns of both walls.
    private static final int[][] TIMES = {
        {12, 3, 2, 2, 4, 9}, {12, 3, 2, 3, 4, 8}, {12, 3, 2, 6, 6, 6}, {12, 3, 2, 0, 2, 10}, {12, 3, 2, 12, 10, 2},
        {12, 1, 0, 0, 1, 24}, {12, 1, 1, 0, 1, 25}, {12, 1, 2, 0, 2, 26}, {12, 9, 0, 12, 3, 1}, {12, 9, 1, 12, 4, 1},
        {12, 9, 0, 1, 1, 3}, {12, 9, 1, 1, 2, 4}, {12, 2, 0, 1, 1, 11}, {12, 8, 0, 4, 1, 2}, {12, 7, 0, 4, 2, 3},
        {8, 9, 0, 8, 2, 1}, {8, 9, 0, 4, 1, 1}, {8, 1, 5, 8, 21, 5}, {40, 1, 5, 0, 5, 85}, {40, 1, 5, 40, 85, 5},
        {40, 9, 0, 4, 1, 8}, {40, 9, 0, 5, 2, 8}, {40, 9, 0, 9, 2, 7}, {40, 9, 5, 22, 10, 9}, {40, 9, 5, 23, 11, 9},
    };

    private static CanyonBall withPlayer0At(int[] row) {
        CanyonBall x = Scenes.canyon(row[0], row[1], row[2]);
        Check.walkTo(x, 0, row[3]);
        return x;
    }

    /**
     * With d as the distance to the wall, in (2 * d divided by setting 1, rounded up) and setting 2 turns, together,
     * but at least 1.
     */
    private static void echoTimes() {
        for (int[] row : TIMES) {
            CanyonBall x = withPlayer0At(row);
            String from = "at " + row[3] + " of " + row[0] + ", " + row[1] + " and " + row[2];
            Check.due(from + ": left", x.echoIn(0, 0), row[4]);
            Check.due(from + ": right", x.echoIn(0, 1), row[5]);
            Check.due(from + ": call", x.call(0, 3), Math.min(row[4], row[5]));
            int leftRank = row[4] <= row[5] ? 0 : 1;
            Check.due(from + ": echo of the left wall", x.echoOf(leftRank, 3), row[4]);
            Check.due(from + ": it is that of the left wall", x.echoOf(leftRank, 4), 0);
            Check.due(from + ": echo of the right wall", x.echoOf(1 - leftRank, 3), row[5]);
            Check.due(from + ": it is that of the right wall", x.echoOf(1 - leftRank, 4), 1);
        }
    }

    /** The same: an echo is under way up to its turn, and no longer. */
    private static void echoesComeWhenTold() {
        for (int[] row : TIMES) {
            CanyonBall x = withPlayer0At(row);
            String from = "at " + row[3] + " of " + row[0] + ", " + row[1] + " and " + row[2];
            x.call(0, 3);
            for (int turn = 1; turn <= 86; turn++) {
                x.pass(1);
                int left = row[4] > turn ? 1 : 0;
                int right = row[5] > turn ? 1 : 0;
                Check.due(from + ": under way in turn " + turn, x.count(4), left + right);
            }
        }
    }

    /** Each player can have at most 6 echoes under way. */
    private static void sixEchoesOfEach() {
        CanyonBall x = new CanyonBall();
        int[] firsts = {4, 5, 6, 5};
        for (int player = 0; player < 4; player++) {
            for (int i = 1; i <= 3; i++) {
                Check.due("call " + i + " of " + player, x.call(player, i), firsts[player]);
                Check.due("echoes of " + player, x.playerOf(player, 3), 2 * i);
            }
            Check.due("call 4 of " + player, x.call(player, 4), NONE);
            Check.due("still 6 of " + player, x.playerOf(player, 3), 6);
        }
        Check.due("24 in all", x.count(4), 24);
        Check.due("4 refused", x.count(10), 4);
    }

    /** The same, when some are back: 5 and 2 more would be 7, 4 and 2 more are 6. */
    private static void sixEchoesWhenSomeAreBack() {
        CanyonBall x = new CanyonBall();
        // Player 1 calls at 0, 1 and 2: due at 5, 6, 7 and at 8, 9, 10.
        x.call(1, 1);
        x.pass(1);
        x.call(1, 1);
        x.pass(1);
        x.call(1, 1);
        x.pass(3);
        Check.due("5 under way", x.playerOf(1, 3), 5);
        Check.due("5 and 2", x.call(1, 2), NONE);
        Check.due("still 5", x.playerOf(1, 3), 5);
        x.pass(1);
        Check.due("4 under way", x.playerOf(1, 3), 4);
        Check.due("4 and 2", x.call(1, 2), 5);
        Check.due("6 under way", x.playerOf(1, 3), 6);
        Check.due("refused once", x.count(10), 1);
    }

    /** The clock becomes 1 more. Then the ball moves. Then the echoes come back that are due at this clock. */
    private static void ballMovesAheadOfEchoes() {
        // The place and the speed ahead of the turn, 1 if to the right, and 1 if it comes to 8.
        int[][] rows = {{7, 1, 1, 1}, {8, 1, 1, 0}, {9, 1, 0, 1}, {8, 1, 0, 0}, {6, 1, 1, 0}, {10, 1, 0, 0},
            {6, 2, 1, 1}, {7, 2, 1, 0}, {12, 4, 1, 1}, {8, 8, 1, 1}};
        for (int[] row : rows) {
            CanyonBall x = new CanyonBall();
            x.call(3, 1);
            x.pass(4);
            x.throwBall(row[0], row[1], row[2] == 1);
            Check.due("not yet back at 4", x.count(6), 0);
            Check.due("caught from " + row[0] + " at " + row[1], x.pass(1), row[3]);
            Check.due("answered in any case", x.count(6), 1);
            Check.due("clock", x.count(0), 5);
        }
    }

    /** If two or more come back to one place, they all clash. */
    private static void twoOrMoreClash() {
        for (int calls = 1; calls <= 12; calls++) {
            CanyonBall x = Scenes.allAt(6);
            for (int i = 0; i < calls; i++) {
                x.call(i % 4, 1);
            }
            x.throwBall(0, 1, true);
            Check.due("none is caught, though the ball is there", x.pass(6), 0);
            Check.due("ball", x.count(1), 6);
            Check.due("clashed of " + calls + " calls", x.count(7), 2 * calls);
            Check.due("none is left", x.count(4), 0);
            Check.due("of player 0", x.playerOf(0, 5), 2 * ((calls + 3) / 4));
            Check.due("of player 3", x.playerOf(3, 5), 2 * (calls / 4));
        }
        CanyonBall three = Scenes.allAt(4);
        three.call(0, 1);
        three.call(2, 1);
        three.call(3, 1);
        three.pass(5);
        Check.due("three of the left wall", three.count(7), 3);
        three.pass(3);
        Check.due("and three of the right wall", three.count(7), 6);
    }

    /** The same: a turn apart there are not two that come back. */
    private static void aTurnApartNoneClash() {
        CanyonBall x = Scenes.allAt(2);
        x.call(0, 1);
        x.pass(1);
        x.call(1, 1);
        x.pass(9);
        Check.due("clashed", x.count(7), 0);
        Check.due("answered", x.count(6), 4);
        CanyonBall y = Scenes.allAt(2);
        y.call(0, 1);
        y.pass(5);
        y.call(1, 1);
        y.pass(4);
        Check.due("at 9 those of two walls clash", y.count(7), 2);
        y.pass(5);
        Check.due("the others not", y.count(6), 2);
    }

    /** The same: a place apart there are not two that come back to one place. */
    private static void aPlaceApartNoneClash() {
        CanyonBall x = new CanyonBall();
        // Both of the right wall take 8 turns, from 3 and from 4.
        x.walk(0, 1);
        x.call(0, 1);
        x.call(1, 1);
        x.throwBall(12, 1, false);
        x.pass(7);
        Check.due("two are due in the next turn", x.echoOf(1, 3), 1);
        Check.due("caught in the same turn", x.pass(1), 1);
        Check.due("clashed", x.count(7), 0);
        Check.due("answered", x.count(6), 4);
        Check.due("caught by the one at 4", x.playerOf(1, 1), 1);
    }

    /** If just one does, it is answered if the player who called stands there, otherwise it is lost. */
    private static void answeredOrLost() {
        for (int by = -2; by <= 2; by++) {
            CanyonBall x = new CanyonBall();
            x.call(1, 1);
            x.walk(1, by);
            x.walk(0, 2);
            x.pass(4);
            Check.due("neither before", x.count(6) + x.count(8), 0);
            x.pass(1);
            Check.due("answered, " + by + " away", x.playerOf(1, 4), by == 0 ? 1 : 0);
            Check.due("lost, " + by + " away", x.playerOf(1, 6), by == 0 ? 0 : 1);
            Check.due("nothing for the other one who stands there", x.playerOf(0, 4) + x.playerOf(0, 6), 0);
        }
    }

    /** If it is answered, and the ball is at this place, the player catches the ball. */
    private static void caughtAtThePlaceOfTheBall() {
        for (int place = 0; place <= 12; place++) {
            CanyonBall x = Scenes.aheadOfAnEcho(1);
            x.throwBall(place, 1, true);
            int there = place < 12 ? place + 1 : 11;
            Check.due("caught at " + there, x.pass(1), there == 8 ? 1 : 0);
            Check.due("told of the player", x.playerOf(3, 1), there == 8 ? 1 : 0);
            Check.due("speed", x.count(2), there == 8 ? 2 : 1);
        }
        CanyonBall lost = Scenes.aheadOfAnEcho(1);
        lost.throwBall(7, 1, true);
        lost.walk(3, 1);
        Check.due("not by a lost echo", lost.pass(1), 0);
        Check.due("it goes on as it was", lost.count(2), 1);
    }

    /** A ball that is caught at 8 in this turn, by the word; to the left only with a speed up to 4. */
    private static CanyonBall caught(int speed, boolean isRight, int word) {
        CanyonBall x = Scenes.aheadOfAnEcho(word);
        if (!isRight) {
            x.throwBall(8 + speed, speed, false);
        } else if (speed < 9) {
            x.throwBall(8 - speed, speed, true);
        } else {
            x.throwBall(1, speed, false);
        }
        Check.due("caught by " + word + " at the speed " + speed, x.pass(1), 1);
        Check.due("at its place", x.count(1), 8);
        return x;
    }

    /** With 0, 3, 6 and 9 it turns around. */
    private static void wordsTurnAround() {
        int[] turning = {1, 0, 0, 1, 0, 0, 1, 0, 0, 1};
        for (int word = 0; word <= 9; word++) {
            for (int speed = 1; speed <= 9; speed++) {
                Check.due("to the right by " + word, caught(speed, true, word).count(3), 1 - turning[word]);
                if (speed <= 4) {
                    Check.due("to the left by " + word, caught(speed, false, word).count(3), turning[word]);
                }
            }
        }
    }

    /** With 1, 4 and 7 its speed becomes 1 more, at most 9; with 2, 5 and 8 1 less, at least 1. */
    private static void wordsChangeTheSpeed() {
        int[] more = {0, 1, -1, 0, 1, -1, 0, 1, -1, 0};
        for (int word = 0; word <= 9; word++) {
            for (int speed = 2; speed <= 8; speed++) {
                Check.due("speed " + speed + " by " + word, caught(speed, true, word).count(2), speed + more[word]);
            }
            Check.due("speed 1 by " + word, caught(1, true, word).count(2), more[word] == 1 ? 2 : 1);
            Check.due("speed 9 by " + word, caught(9, true, word).count(2), more[word] == -1 ? 8 : 9);
        }
    }

    /** And sends it on at once, by the word: it is at its place, and its next turn goes by the word. */
    private static void ballIsSentOnAtOnce() {
        int[] places = {4, 11, 11, 4, 11, 11, 4, 11, 11, 4};
        int[] rights = {0, 0, 1, 0, 0, 1, 0, 0, 1, 0};
        for (int word = 0; word <= 9; word++) {
            CanyonBall x = caught(4, true, word);
            Check.due("would be by " + word, x.ballIn(1, 0), places[word]);
            x.pass(1);
            Check.due("place after " + word, x.count(1), places[word]);
            Check.due("direction after " + word, x.count(3), rights[word]);
        }
    }

    /** The same at a wall, where the ball has not yet turned around. */
    private static void ballIsSentOnAtTheWalls() {
        // The word, then 1 if it goes on to the wall's side, its speed, and how far from the wall it is a turn later.
        int[][] rows = {{0, 0, 2, 2}, {1, 1, 3, 3}, {2, 1, 1, 1}};
        for (int[] row : rows) {
            CanyonBall right = new CanyonBall();
            Check.walkTo(right, 3, 12);
            Check.due("call at the right wall", right.call(3, row[0]), 2);
            right.throwBall(8, 2, true);
            Check.due("caught at the right wall", right.pass(2), 1);
            Check.due("place", right.count(1), 12);
            Check.due("to the right", right.count(3), row[1]);
            Check.due("speed", right.count(2), row[2]);
            right.pass(1);
            Check.due("from the right wall", right.count(1), 12 - row[3]);
            CanyonBall left = new CanyonBall();
            Check.walkTo(left, 0, 0);
            Check.due("call at the left wall", left.call(0, row[0]), 2);
            left.throwBall(4, 2, false);
            Check.due("caught at the left wall", left.pass(2), 1);
            Check.due("place", left.count(1), 0);
            Check.due("to the right", left.count(3), 1 - row[1]);
            left.pass(1);
            Check.due("from the left wall", left.count(1), row[3]);
        }
    }

    /** 0: ... at first 12; 1: ... at first 3; 2: ... at first 2. */
    private static void settingsAtFirst() {
        CanyonBall x = new CanyonBall();
        Check.due("setting 0", x.setting(0), 12);
        Check.due("setting 1", x.setting(1), 3);
        Check.due("setting 2", x.setting(2), 2);
    }

    /** 0: the last place, 8 to 40; 1: how far sound goes in a turn, 1 to 9; 2: how many turns more, 0 to 5. */
    private static void settingsFromLeastToMost() {
        int[] leasts = {8, 1, 0};
        int[] mosts = {40, 9, 5};
        for (int i = 0; i < 3; i++) {
            CanyonBall x = new CanyonBall();
            int setting = i;
            int before = x.setting(i);
            for (int value = mosts[i]; value >= leasts[i]; value--) {
                Check.due("set(" + i + ", " + value + ")", x.set(i, value), before);
                Check.due("setting(" + i + ")", x.setting(i), value);
                before = value;
            }
            Check.dueThrow(x, "too little for " + i, ARGUMENT, () -> x.set(setting, leasts[setting] - 1));
            Check.dueThrow(x, "too much for " + i, ARGUMENT, () -> x.set(setting, mosts[setting] + 1));
        }
    }

    /** Echoes that are under way come when they were due. */
    private static void echoesUnderWayAreNotSet() {
        int[][] settings = {{40, 9, 5}, {40, 1, 0}, {8, 9, 0}, {8, 1, 5}};
        for (int[] to : settings) {
            CanyonBall x = new CanyonBall();
            x.call(0, 1);
            for (int i = 0; i < 3; i++) {
                x.set(i, to[i]);
            }
            Check.due("the left one is due in 4", x.echoOf(0, 3), 4);
            Check.due("the right one is due in 9", x.echoOf(1, 3), 9);
            Check.due("to the place of the call", x.echoOf(1, 1), 2);
            x.pass(3);
            Check.due("none before 4", x.count(4), 2);
            x.pass(1);
            Check.due("one at 4", x.count(4), 1);
            x.pass(4);
            Check.due("none before 9", x.count(4), 1);
            x.pass(1);
            Check.due("the other one at 9", x.count(4), 0);
        }
    }

    /** Setting 0 cannot become less than the place of a player. */
    private static void notLessThanAPlayer() {
        for (int p = 0; p < 4; p++) {
            int player = p;
            CanyonBall x = new CanyonBall();
            Check.walkTo(x, player, 12);
            Check.dueThrow(x, "11, with player " + p + " at 12", STATE, () -> x.set(0, 11));
            Check.dueThrow(x, "8, with player " + p + " at 12", STATE, () -> x.set(0, 8));
            Check.due("12 is not less", x.set(0, 12), 12);
            x.walk(player, -1);
            Check.due("11, with player " + p + " at 11", x.set(0, 11), 12);
            x.set(0, 40);
            Check.walkTo(x, player, 40);
            Check.dueThrow(x, "39, with player " + p + " at 40", STATE, () -> x.set(0, 39));
            Check.walkTo(x, player, 9);
            Check.dueThrow(x, "8, with player " + p + " at 9", STATE, () -> x.set(0, 8));
            x.walk(player, -1);
            Check.due("8, with player " + p + " at 8", x.set(0, 8), 40);
        }
    }

    /** Setting 0 cannot become less than the place of the ball. */
    private static void notLessThanTheBall() {
        CanyonBall x = new CanyonBall();
        x.throwBall(12, 9, false);
        Check.dueThrow(x, "11, with the ball at 12", STATE, () -> x.set(0, 11));
        Check.due("12, with the ball at 12", x.set(0, 12), 12);
        x.throwBall(11, 1, true);
        Check.due("11, with the ball at 11", x.set(0, 11), 12);
        x.throwBall(9, 1, true);
        Check.dueThrow(x, "8, with the ball at 9", STATE, () -> x.set(0, 8));
        x.throwBall(8, 1, true);
        Check.due("8, with the ball at 8", x.set(0, 8), 11);
        x.pass(1);
        Check.due("it turns around at the new wall", x.count(1), 7);
    }

    /** Setting 0 cannot become less than the place of an echo that is under way. */
    private static void notLessThanAnEcho() {
        CanyonBall x = new CanyonBall();
        Check.walkTo(x, 3, 12);
        x.call(3, 0);
        Check.walkTo(x, 3, 8);
        // Due in 2 from the right wall, in 10 from the left one.
        for (int clock = 0; clock < 10; clock++) {
            x.throwBall(0, 1, true);
            Check.dueThrow(x, "11, with an echo to 12 at " + clock, STATE, () -> x.set(0, 11));
            Check.due("12 is not less", x.set(0, 12), 12);
            x.pass(1);
        }
        Check.due("it has come back", x.set(0, 11), 12);
        Check.walkTo(x, 0, 11);
        x.call(0, 0);
        Check.walkTo(x, 0, 0);
        Check.due("11, with an echo to 11", x.set(0, 11), 11);
        Check.dueThrow(x, "10, with an echo to 11", STATE, () -> x.set(0, 10));
        x.set(0, 40);
        Check.dueThrow(x, "10 of 40, with an echo to 11", STATE, () -> x.set(0, 10));
        Check.due("11 of 40, with an echo to 11", x.set(0, 11), 40);
    }
}
