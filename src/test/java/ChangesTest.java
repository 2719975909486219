/** Promises 1 to 6: a new object, call, walk, throwBall, set, pass. */
public final class ChangesTest {
    private static final Class<IndexOutOfBoundsException> INDEX = IndexOutOfBoundsException.class;
    private static final Class<IllegalArgumentException> ARGUMENT = IllegalArgumentException.class;
    private static final Class<IllegalStateException> STATE = IllegalStateException.class;

    private ChangesTest() {
    }

    public static void main(String[] args) {
        promise1NewObject();
        promise2Call();
        promise2SixEchoes();
        promise2CallWrongInputs();
        promise3Walk();
        promise3WalkWrongInputs();
        promise4ThrowBall();
        promise4ThrowBallWrongInputs();
        promise5Set();
        promise5SetTooLittle();
        promise5SetWrongInputs();
        promise6Bounces();
        promise6Words();
        promise6CatchCapsSpeed();
        promise6AnsweredOrLost();
        promise6Clashes();
        promise6CatchOnlyAtTheBall();
        promise6PassWrongInputs();
        promise6EndOfTheClock();
        Check.end();
    }

    private static void promise1NewObject() {
        CanyonBall x = new CanyonBall();
        Check.due("NONE", CanyonBall.NONE, -1);
        int[] counts = {0, 0, 1, 1, 0, 0, 0, 0, 0, 0, 0, 0};
        for (int what = 0; what < counts.length; what++) {
            Check.due("new: count(" + what + ")", x.count(what), counts[what]);
        }
        for (int player = 0; player < 4; player++) {
            Check.due("new: place of " + player, x.playerOf(player, 0), 2 * player + 2);
            for (int what = 1; what < 7; what++) {
                Check.due("new: playerOf(" + player + ", " + what + ")", x.playerOf(player, what), 0);
            }
        }
        Check.due("new: setting(0)", x.setting(0), 12);
        Check.due("new: setting(1)", x.setting(1), 3);
        Check.due("new: setting(2)", x.setting(2), 2);
        Check.due("new: firstError", x.firstError(), 0);
        Check.due("new: clearBuffer", x.clearBuffer(), 0);
        Check.dueThrow(x, "new: goBack(0)", STATE, () -> x.goBack(0));
        Check.dueThrow(x, "new: goBack(1)", STATE, () -> x.goBack(1));
        Check.dueThrow(x, "new: undo", STATE, () -> x.undo());
    }

    private static void promise2Call() {
        CanyonBall x = new CanyonBall();
        Check.due("call(0, 4)", x.call(0, 4), 4);
        Check.due("call(3, 0): the right wall is the nearer one", x.call(3, 0), 5);
        Check.due("call(2, 9): both at once", x.call(2, 9), 6);
        Check.due("echoes sent", x.count(5), 6);
        Check.due("echoes under way", x.count(4), 6);
        Check.due("calls of 0", x.playerOf(0, 2), 1);
        Check.due("saved states", x.count(11), 3);
        Check.due("nothing refused", x.count(10), 0);
        CanyonBall y = new CanyonBall();
        y.set(2, 0);
        y.walk(0, -2);
        Check.due("call at the wall takes at least 1 turn", y.call(0, 1), 1);
        y.set(2, 1);
        Check.due("call at the wall takes setting 2", y.call(0, 1), 1);
        y.set(2, 5);
        Check.due("call at the wall takes 5 turns", y.call(0, 1), 5);
    }

    private static void promise2SixEchoes() {
        CanyonBall x = new CanyonBall();
        for (int i = 0; i < 3; i++) {
            Check.due("call " + i, x.call(1, i), 5);
        }
        Check.due("a fourth call is refused", x.call(1, 3), CanyonBall.NONE);
        Check.due("refused", x.count(10), 1);
        Check.due("saved though refused", x.count(11), 4);
        Check.due("calls", x.playerOf(1, 2), 3);
        Check.due("echoes under way", x.playerOf(1, 3), 6);
        Check.due("sent", x.count(5), 6);
        Check.due("another player can call", x.call(0, 3), 4);
        x.pass(5);
        Check.due("three have come back", x.playerOf(1, 3), 3);
        Check.due("4 and 2 more would be 6", x.call(1, 3), 5);
        Check.due("5 and 2 more would be 7", x.call(1, 3), CanyonBall.NONE);
        Check.due("refused twice", x.count(10), 2);
    }

    private static void promise2CallWrongInputs() {
        CanyonBall x = new CanyonBall();
        Check.dueThrow(x, "call(-1, 0)", INDEX, () -> x.call(-1, 0));
        Check.dueThrow(x, "call(4, 0)", INDEX, () -> x.call(4, 0));
        Check.dueThrow(x, "call(4, 10)", INDEX, () -> x.call(4, 10));
        Check.dueThrow(x, "call(0, -1)", ARGUMENT, () -> x.call(0, -1));
        Check.dueThrow(x, "call(3, 10)", ARGUMENT, () -> x.call(3, 10));
        Check.dueThrow(x, "call(MIN, MAX)", INDEX, () -> x.call(Integer.MIN_VALUE, Integer.MAX_VALUE));
    }

    private static void promise3Walk() {
        CanyonBall x = new CanyonBall();
        Check.due("walk(0, -2)", x.walk(0, -2), 0);
        Check.due("walk(0, -1) is refused", x.walk(0, -1), CanyonBall.NONE);
        Check.due("place", x.playerOf(0, 0), 0);
        Check.due("refused", x.count(10), 1);
        Check.due("walk(0, 0)", x.walk(0, 0), 0);
        Check.due("walk(0, 9)", x.walk(0, 9), 9);
        Check.due("walk(0, 3)", x.walk(0, 3), 12);
        Check.due("walk(0, 1) is refused", x.walk(0, 1), CanyonBall.NONE);
        Check.due("walk(0, -9)", x.walk(0, -9), 3);
        Check.due("walk(1, -1): two can stand at one place", x.walk(1, -1), 3);
        Check.due("refused twice", x.count(10), 2);
        Check.due("saved states, at most 6", x.count(11), 6);
    }

    private static void promise3WalkWrongInputs() {
        CanyonBall x = new CanyonBall();
        Check.dueThrow(x, "walk(-1, 0)", INDEX, () -> x.walk(-1, 0));
        Check.dueThrow(x, "walk(4, 10)", INDEX, () -> x.walk(4, 10));
        Check.dueThrow(x, "walk(0, 10)", ARGUMENT, () -> x.walk(0, 10));
        Check.dueThrow(x, "walk(0, -10)", ARGUMENT, () -> x.walk(0, -10));
        Check.dueThrow(x, "walk(0, MIN)", ARGUMENT, () -> x.walk(0, Integer.MIN_VALUE));
    }

    private static void promise4ThrowBall() {
        CanyonBall x = new CanyonBall();
        Check.due("throwBall(12, 9, false)", x.throwBall(12, 9, false), 0);
        Check.due("place", x.count(1), 12);
        Check.due("speed", x.count(2), 9);
        Check.due("goes to the left", x.count(3), 0);
        Check.due("throwBall(0, 1, true)", x.throwBall(0, 1, true), 12);
        Check.due("goes to the right", x.count(3), 1);
        Check.due("undoable", x.undo(), 1);
        Check.due("place after undo", x.count(1), 12);
        x.set(0, 40);
        Check.due("throwBall(40, 5, true) in a wide canyon", x.throwBall(40, 5, true), 12);
        Check.due("no one has caught it", x.count(9), 0);
    }

    private static void promise4ThrowBallWrongInputs() {
        CanyonBall x = new CanyonBall();
        Check.dueThrow(x, "throwBall(13, 1, true)", ARGUMENT, () -> x.throwBall(13, 1, true));
        Check.dueThrow(x, "throwBall(-1, 1, true)", ARGUMENT, () -> x.throwBall(-1, 1, true));
        Check.dueThrow(x, "throwBall(0, 0, true)", ARGUMENT, () -> x.throwBall(0, 0, true));
        Check.dueThrow(x, "throwBall(0, 10, true)", ARGUMENT, () -> x.throwBall(0, 10, true));
    }

    private static void promise5Set() {
        CanyonBall x = new CanyonBall();
        Check.due("set(0, 40)", x.set(0, 40), 12);
        Check.due("set(0, 8): player 3 stands at 8", x.set(0, 8), 40);
        Check.due("set(1, 9)", x.set(1, 9), 3);
        Check.due("set(1, 1)", x.set(1, 1), 9);
        Check.due("set(2, 5)", x.set(2, 5), 2);
        Check.due("set(2, 0)", x.set(2, 0), 5);
        Check.due("set(2, 0) again is saved too", x.set(2, 0), 0);
        Check.due("undo", x.undo(), 5);
        Check.due("setting(2)", x.setting(2), 0);
        Check.due("undo", x.undo(), 4);
        Check.due("setting(2)", x.setting(2), 5);
        CanyonBall y = new CanyonBall();
        y.call(0, 0);
        y.set(1, 9);
        y.set(2, 0);
        Check.due("echoes under way come when they were due", y.echoOf(0, 3), 4);
        Check.due("the other one too", y.echoOf(1, 3), 9);
        Check.due("a new one takes ceil(4 / 9)", y.echoIn(0, 0), 1);
    }

    private static void promise5SetTooLittle() {
        CanyonBall x = new CanyonBall();
        x.walk(0, 9);
        x.walk(0, 1);
        Check.dueThrow(x, "set(0, 11): player 0 stands at 12", STATE, () -> x.set(0, 11));
        x.call(0, 0);
        x.walk(0, -9);
        Check.dueThrow(x, "set(0, 11): an echo is under way to 12", STATE, () -> x.set(0, 11));
        x.pass(2);
        Check.dueThrow(x, "set(0, 11): another echo is under way to 12", STATE, () -> x.set(0, 11));
        x.pass(8);
        Check.due("all is quiet", x.quietIn(), 0);
        Check.due("set(0, 10): the ball is at 10", x.set(0, 10), 12);
        Check.dueThrow(x, "set(0, 9): the ball is at 10", STATE, () -> x.set(0, 9));
        x.throwBall(0, 1, true);
        Check.due("set(0, 9)", x.set(0, 9), 10);
    }

    private static void promise5SetWrongInputs() {
        CanyonBall x = new CanyonBall();
        Check.dueThrow(x, "set(-1, 99)", INDEX, () -> x.set(-1, 99));
        Check.dueThrow(x, "set(3, 1)", INDEX, () -> x.set(3, 1));
        Check.dueThrow(x, "set(0, 41)", ARGUMENT, () -> x.set(0, 41));
        Check.dueThrow(x, "set(1, 0)", ARGUMENT, () -> x.set(1, 0));
        Check.dueThrow(x, "set(1, 10)", ARGUMENT, () -> x.set(1, 10));
        Check.dueThrow(x, "set(2, -1)", ARGUMENT, () -> x.set(2, -1));
        Check.dueThrow(x, "set(2, 6)", ARGUMENT, () -> x.set(2, 6));
        x.walk(3, 1);
        Check.dueThrow(x, "set(0, 8): player 3 stands at 9", STATE, () -> x.set(0, 8));
        Check.dueThrow(x, "set(0, 7): out of range comes first", ARGUMENT, () -> x.set(0, 7));
    }

    private static void promise6Bounces() {
        CanyonBall x = new CanyonBall();
        x.throwBall(10, 3, true);
        Check.due("pass(1)", x.pass(1), 0);
        Check.due("10 -> 11 -> 12 -> 11", x.count(1), 11);
        Check.due("to the left", x.count(3), 0);
        Check.due("clock", x.count(0), 1);
        x.throwBall(11, 1, true);
        x.pass(1);
        Check.due("at the wall", x.count(1), 12);
        Check.due("it turns around only ahead of the next step", x.count(3), 1);
        x.pass(1);
        Check.due("back from the wall", x.count(1), 11);
        x.throwBall(1, 1, false);
        x.pass(1);
        Check.due("at the left wall", x.count(1), 0);
        Check.due("still to the left", x.count(3), 0);
        x.pass(99);
        Check.due("99 turns later", x.count(1), 3);
        Check.due("clock", x.count(0), 103);
        x.undo();
        Check.due("pass is undone as one call", x.count(0), 4);
        x.set(0, 8);
        x.throwBall(8, 9, false);
        x.pass(1);
        Check.due("two walls in one turn", x.count(1), 1);
        Check.due("to the right", x.count(3), 1);
    }

    /** Player 3 stands at 8, so that its echo of the right wall is back in 5 turns, when the ball comes from the left. */
    private static CanyonBall afterCatch(int speed, int word) {
        CanyonBall x = new CanyonBall();
        x.call(3, word);
        Check.due("no catch ahead of it", x.pass(4), 0);
        // At the speed 9 it comes from 1, by the left wall.
        x.throwBall(speed < 9 ? 8 - speed : 1, speed, speed < 9);
        Check.due("catch by the word " + word + " at the speed " + speed, x.pass(1), 1);
        Check.due("the ball stays at its place", x.count(1), 8);
        Check.due("caught", x.playerOf(3, 1), 1);
        Check.due("caught in all", x.count(9), 1);
        return x;
    }

    private static void promise6Words() {
        int[] speeds = {4, 5, 3, 4, 5, 3, 4, 5, 3, 4};
        for (int word = 0; word <= 9; word++) {
            CanyonBall x = afterCatch(4, word);
            Check.due("speed after " + word, x.count(2), speeds[word]);
            Check.due("direction after " + word, x.count(3), word % 3 == 0 ? 0 : 1);
        }
    }

    private static void promise6CatchCapsSpeed() {
        Check.due("at most 9", afterCatch(9, 7).count(2), 9);
        Check.due("8 becomes 9", afterCatch(8, 1).count(2), 9);
        Check.due("at least 1", afterCatch(1, 5).count(2), 1);
        Check.due("2 becomes 1", afterCatch(2, 8).count(2), 1);
    }

    private static void promise6AnsweredOrLost() {
        CanyonBall x = new CanyonBall();
        x.throwBall(12, 1, false);
        x.call(0, 1);
        x.pass(3);
        Check.due("not yet", x.count(4), 2);
        x.pass(1);
        Check.due("answered", x.playerOf(0, 4), 1);
        Check.due("one is under way", x.playerOf(0, 3), 1);
        x.walk(0, 1);
        x.walk(1, -2);
        x.pass(5);
        Check.due("lost, though another player stands there", x.playerOf(0, 6), 1);
        Check.due("not the other one's", x.playerOf(1, 4), 0);
        Check.due("answered in all", x.count(6), 1);
        Check.due("lost in all", x.count(8), 1);
        CanyonBall y = new CanyonBall();
        y.call(0, 1);
        y.walk(0, 1);
        y.pass(3);
        y.walk(0, -1);
        y.pass(1);
        Check.due("answered by one who has come back", y.playerOf(0, 4), 1);
    }

    private static void promise6Clashes() {
        CanyonBall x = new CanyonBall();
        x.throwBall(0, 1, true);
        x.call(2, 0);
        Check.due("the ball is at 6 then, but not caught", x.pass(6), 0);
        Check.due("ball", x.count(1), 6);
        Check.due("both echoes of one call clash", x.playerOf(2, 5), 2);
        CanyonBall y = new CanyonBall();
        y.walk(1, -2);
        y.call(0, 0);
        y.call(1, 0);
        y.walk(1, 2);
        y.pass(4);
        Check.due("echoes of two players clash", y.playerOf(0, 5), 1);
        Check.due("wherever they stand", y.playerOf(1, 5), 1);
        Check.due("none is lost", y.count(8), 0);
        y.pass(5);
        Check.due("clashed in all", y.count(7), 4);
        CanyonBall z = new CanyonBall();
        z.call(1, 0);
        z.call(3, 0);
        z.throwBall(12, 1, false);
        z.pass(5);
        Check.due("due at once at other places: no clash", z.count(7), 0);
        Check.due("both are answered", z.count(6), 2);
        z.pass(3);
        Check.due("and again", z.count(6), 4);
        CanyonBall t = new CanyonBall();
        t.walk(1, -2);
        t.walk(2, -4);
        t.call(0, 0);
        t.call(1, 0);
        t.call(2, 0);
        t.pass(4);
        Check.due("three clash", t.count(7), 3);
    }

    private static void promise6CatchOnlyAtTheBall() {
        CanyonBall x = new CanyonBall();
        x.call(3, 0);
        Check.due("answered at 5, ball elsewhere", x.pass(5), 0);
        Check.due("answered", x.playerOf(3, 4), 1);
        Check.due("pass to 8", x.pass(3), 1);
        Check.due("turned around", x.count(3), 0);
        Check.due("ball", x.count(1), 8);
        CanyonBall y = new CanyonBall();
        y.call(3, 0);
        y.walk(3, 1);
        Check.due("lost: not caught", y.pass(8), 0);
        Check.due("catches are counted over all turns", twoCatches(), 2);
    }

    private static int twoCatches() {
        CanyonBall x = new CanyonBall();
        x.call(1, 1);
        x.call(3, 0);
        // In the turn 5 the ball is at 8, where 3's word turns it around; in the turn 8 it is at 4, where 1 stands.
        x.throwBall(12, 4, true);
        int caught = x.pass(8);
        Check.due("caught by 1", x.playerOf(1, 1), 1);
        Check.due("caught by 3", x.playerOf(3, 1), 1);
        Check.due("speed by 1's word", x.count(2), 5);
        return caught;
    }

    private static void promise6PassWrongInputs() {
        CanyonBall x = new CanyonBall();
        Check.dueThrow(x, "pass(0)", ARGUMENT, () -> x.pass(0));
        Check.dueThrow(x, "pass(-1)", ARGUMENT, () -> x.pass(-1));
        Check.dueThrow(x, "pass(100)", ARGUMENT, () -> x.pass(100));
        Check.dueThrow(x, "pass(MAX)", ARGUMENT, () -> x.pass(Integer.MAX_VALUE));
    }

    /** No run of 512 calls comes so far; the limit is tested with more, on which this program keeps it too. */
    private static void promise6EndOfTheClock() {
        CanyonBall x = new CanyonBall();
        for (int i = 0; i < 1010; i++) {
            x.pass(99);
        }
        Check.due("clock", x.count(0), 99990);
        Check.dueThrow(x, "pass(10) at 99990", STATE, () -> x.pass(10));
        Check.dueThrow(x, "pass(100) at 99990", ARGUMENT, () -> x.pass(100));
        Check.due("a text stops at the limit", Check.runText(x, "m0+1;t9;m0+1;t1;m0+1"), 3);
        Check.due("what would throw is not counted as refused", x.count(10), 0);
        Check.due("the clock at its end", x.count(0), 99999);
        Check.dueThrow(x, "pass(1) at 99999", STATE, () -> x.pass(1));
    }
}
