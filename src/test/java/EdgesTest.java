/** The edges of promises 1 to 6: a new object, call, walk, throwBall, set, pass. */
public final class EdgesTest {
    private static final int NONE = CanyonBall.NONE;

    private EdgesTest() {
    }

    public static void main(String[] args) {
        newObject();
        objectsApart();
        callReturnsTheFirstOfBoth();
        callReturnsOneAtLeast();
        callRefusedChangesNothingElse();
        walkReturnsThePlace();
        walkUpToTheWalls();
        walkBeyondTheWalls();
        walkRefusedChangesNothingElse();
        walkingTakesNoTurn();
        throwBallFromWallToWall();
        throwBallReturnsWhereItWas();
        throwBallIsNoCatch();
        setReturnsThePrevious();
        setMovesTheRightWall();
        passOneTurn();
        passNinetyNineTurns();
        passReturnsCatchesInThem();
        passOfSeveralCatches();
        passIsUndoneAsOneCall();
        clockUpTo99999();
        Check.end();
    }

    /** Creates a canyon at the clock 0, with empty slots and an empty buffer: its digest from numbers written out. */
    private static void newObject() {
        long[] values = {
            0, 0, 1, 1, 0, 0, 0, 0, 0, 0, 0, 0,
            12, 3, 2,
            2, 0, 0, 0, 0, 0, 0, 4, 0, 9, 0, 13,
            4, 0, 0, 0, 0, 0, 0, 5, 0, 8, 0, 12,
            6, 0, 0, 0, 0, 0, 0, 6, 1, 6, 1, -1,
            8, 0, 0, 0, 0, 0, 0, 8, 0, 5, 0, 0,
            7, 7, 1, 2, 2, 1,
            0, 0, 0x3FF0000000000000L, 0, 0, 0,
        };
        long hash = 3467;
        for (long value : values) {
            hash = 31 * hash + value;
        }
        Check.due("digest of a new object", new CanyonBall().digest(), hash);
    }

    /** The same, when another object has been used: what one does is not told of the other. */
    private static void objectsApart() {
        CanyonBall x = new CanyonBall();
        long fresh = x.digest();
        CanyonBall busy = Scenes.busy();
        Check.due("an object that was made before", x.digest(), fresh);
        Check.due("an object that is made behind", new CanyonBall().digest(), fresh);
        x.call(0, 1);
        Check.dueWhole("and the other way round", busy, Scenes.busy());
    }

    /** call returns in how many turns the first one of both echoes is due. */
    private static void callReturnsTheFirstOfBoth() {
        int[] want = {2, 3, 4, 4, 5, 6, 6, 6, 5, 4, 4, 3, 2};
        for (int place = 0; place <= 12; place++) {
            CanyonBall x = Scenes.allAt(place);
            for (int player = 0; player < 4; player++) {
                Check.due("call of " + player + " at " + place, x.call(player, 9), want[place]);
            }
        }
    }

    /** The same, at least 1. */
    private static void callReturnsOneAtLeast() {
        for (int more = 0; more <= 5; more++) {
            CanyonBall x = Scenes.canyon(8, 9, more);
            Check.due("at the right wall, with " + more, x.call(3, 0), Math.max(more, 1));
            Check.walkTo(x, 0, 0);
            Check.due("at the left wall, with " + more, x.call(0, 0), Math.max(more, 1));
            x.pass(Math.max(more, 1));
            Check.due("both of the near walls are back, with " + more, x.count(4), 2);
        }
    }

    private static void dueOnlyRefused(String what, CanyonBall x, Check.Deed deed) {
        int[] before = Check.told(x);
        Check.due(what, deed.on(x), NONE);
        before[10]++;
        Check.dueTold(what, x, before);
    }

    /** NONE if it is refused, as the player would have more than 6 echoes under way. */
    private static void callRefusedChangesNothingElse() {
        for (int i = 0; i < 4; i++) {
            int player = i;
            CanyonBall x = new CanyonBall();
            Check.due("first", x.call(player, 0) == NONE ? 1 : 0, 0);
            Check.due("second", x.call(player, 0) == NONE ? 1 : 0, 0);
            Check.due("third", x.call(player, 0) == NONE ? 1 : 0, 0);
            for (int word = 0; word <= 9; word++) {
                int called = word;
                dueOnlyRefused("a fourth call", x, y -> y.call(player, called));
            }
            Check.due("another player's", x.call((player + 1) % 4, 0) == NONE ? 1 : 0, 0);
        }
    }

    /** by: how many places to the right (or, below 0, to the left), -9 to 9. Returns the place then. */
    private static void walkReturnsThePlace() {
        for (int player = 0; player < 4; player++) {
            for (int by = -9; by <= 9; by++) {
                CanyonBall x = Scenes.canyon(40, 3, 2);
                Check.walkTo(x, player, 20);
                Check.due("walk(" + player + ", " + by + ")", x.walk(player, by), 20 + by);
                Check.due("place", x.playerOf(player, 0), 20 + by);
            }
        }
    }

    /** The same, just to a wall. */
    private static void walkUpToTheWalls() {
        for (int by = 0; by <= 9; by++) {
            CanyonBall x = new CanyonBall();
            Check.walkTo(x, 1, by);
            Check.due("by " + -by + " to the left wall", x.walk(1, -by), 0);
            Check.walkTo(x, 1, 12 - by);
            Check.due("by " + by + " to the right wall", x.walk(1, by), 12);
            Check.due("none is refused", x.count(10), 0);
        }
    }

    /** NONE if it is refused, as it would be beyond a wall: from 1 place beyond it to 9. */
    private static void walkBeyondTheWalls() {
        for (int by = 1; by <= 9; by++) {
            for (int beyond = 1; beyond <= by; beyond++) {
                CanyonBall x = new CanyonBall();
                Check.walkTo(x, 1, by - beyond);
                Check.due("by " + -by + ", " + beyond + " beyond the left wall", x.walk(1, -by), NONE);
                Check.walkTo(x, 1, 12 - by + beyond);
                Check.due("by " + by + ", " + beyond + " beyond the right wall", x.walk(1, by), NONE);
                Check.due("two are refused", x.count(10), 2);
            }
        }
    }

    private static void walkRefusedChangesNothingElse() {
        CanyonBall x = Scenes.aheadOfAnEcho(2);
        dueOnlyRefused("a walk to -1", x, y -> y.walk(0, -3));
        dueOnlyRefused("a walk to -7", x, y -> y.walk(0, -9));
        dueOnlyRefused("a walk to 13", x, y -> y.walk(3, 5));
        dueOnlyRefused("a walk to 17", x, y -> y.walk(3, 9));
    }

    /** Players walk while their calls are out: it takes no turn, and the echoes stay as they are. */
    private static void walkingTakesNoTurn() {
        CanyonBall x = new CanyonBall();
        x.call(1, 3);
        x.walk(1, 9 - 1);
        Check.due("clock", x.count(0), 0);
        Check.due("ball", x.count(1), 0);
        Check.due("place of the player", x.playerOf(1, 0), 12);
        Check.due("place of the echo", x.echoOf(0, 1), 4);
        Check.due("turns of the echo", x.echoOf(0, 3), 5);
        Check.due("a new one starts where the player is", x.echoIn(1, 1), 2);
    }

    /** place: 0 to setting 0; speed: 1 to 9; isRight: whether it goes to the right. */
    private static void throwBallFromWallToWall() {
        int[] lasts = {8, 12, 40};
        for (int last : lasts) {
            CanyonBall x = Scenes.canyon(last, 3, 2);
            for (int i = 0; i < 18; i++) {
                int place = i % 2 == 0 ? 0 : last;
                x.throwBall(place, i / 2 + 1, i % 4 < 2);
                Check.due("place", x.count(1), place);
                Check.due("speed", x.count(2), i / 2 + 1);
                Check.due("to the right", x.count(3), i % 4 < 2 ? 1 : 0);
            }
            Check.dueThrow(x, "behind " + last, IllegalArgumentException.class, () -> x.throwBall(last + 1, 1, false));
        }
    }

    /** throwBall returns the place where it was. */
    private static void throwBallReturnsWhereItWas() {
        CanyonBall x = new CanyonBall();
        Check.due("at first", x.throwBall(12, 1, true), 0);
        Check.due("at the right wall", x.throwBall(0, 1, true), 12);
        Check.due("at the left wall", x.throwBall(7, 9, false), 0);
        x.pass(1);
        Check.due("where it has come", x.throwBall(7, 1, true), 2);
    }

    /** A ball that is thrown to a player's place isn't caught there, and takes no turn. */
    private static void throwBallIsNoCatch() {
        CanyonBall x = Scenes.aheadOfAnEcho(1);
        x.throwBall(8, 3, true);
        Check.due("caught", x.count(9), 0);
        Check.due("clock", x.count(0), 4);
        Check.due("echoes under way", x.count(4), 2);
    }

    /** set returns the previous value. */
    private static void setReturnsThePrevious() {
        CanyonBall x = new CanyonBall();
        int[][] rows = {{0, 40, 12}, {0, 8, 40}, {0, 8, 8}, {1, 1, 3}, {1, 9, 1}, {1, 9, 9}, {2, 0, 2}, {2, 5, 0}, {2, 5, 5}};
        for (int[] row : rows) {
            Check.due("set(" + row[0] + ", " + row[1] + ")", x.set(row[0], row[1]), row[2]);
            Check.due("setting(" + row[0] + ")", x.setting(row[0]), row[1]);
        }
        Check.due("setting 0 stays", x.setting(0), 8);
        Check.due("setting 1 stays", x.setting(1), 9);
    }

    /** A ball at the old right wall goes on, when the wall is set further; the next echo comes from the new one. */
    private static void setMovesTheRightWall() {
        CanyonBall x = new CanyonBall();
        x.throwBall(12, 1, true);
        x.set(0, 13);
        x.pass(1);
        Check.due("the ball goes on", x.count(1), 13);
        x.pass(1);
        Check.due("up to the new wall", x.count(1), 12);
        Check.due("the right wall is further", x.echoIn(0, 1), 10);
        Check.due("the left wall is not", x.echoIn(0, 0), 4);
        x.set(0, 12);
        Check.due("as before", x.echoIn(0, 1), 9);
    }

    /** turns: 1 to 99: the least. */
    private static void passOneTurn() {
        CanyonBall x = new CanyonBall();
        Check.due("pass(1)", x.pass(1), 0);
        Check.due("clock", x.count(0), 1);
        Check.due("ball", x.count(1), 1);
    }

    /** The same, the most: 99 turns in one call are 99 calls of one turn. */
    private static void passNinetyNineTurns() {
        CanyonBall x = Scenes.busy();
        CanyonBall y = Scenes.busy();
        int caught = 0;
        for (int i = 0; i < 99; i++) {
            caught += y.pass(1);
        }
        Check.due("pass(99)", x.pass(99), caught);
        Check.dueTold("after 99 turns", x, Check.told(y));
        Check.due("clock", x.count(0), 17 + 99);
    }

    /** pass returns how often the ball is caught in them: up to the last turn, and not behind it. */
    private static void passReturnsCatchesInThem() {
        for (int turns = 1; turns <= 12; turns++) {
            CanyonBall x = new CanyonBall();
            x.call(3, 4);
            Check.due("in " + turns + " turns", x.pass(turns), turns >= 8 ? 1 : 0);
            Check.due("told of the player", x.playerOf(3, 1), turns >= 8 ? 1 : 0);
            Check.due("none behind them", x.pass(20), turns >= 8 ? 0 : 1);
        }
    }

    /** The same, with two catches of one player: by both echoes of one call. */
    private static void passOfSeveralCatches() {
        CanyonBall x = new CanyonBall();
        // At the speed 7 it is at 8 in the turn 5; at the speed 8 it goes once round in the turns 6 to 8.
        x.throwBall(3, 7, false);
        x.call(3, 1);
        Check.due("two in 8 turns", x.pass(8), 2);
        Check.due("speed", x.count(2), 9);
        Check.due("place", x.count(1), 8);
        Check.due("caught by 3", x.playerOf(3, 1), 2);
        Check.due("caught in all", x.count(9), 2);
        x.undo();
        Check.due("one in 5 turns", x.pass(5), 1);
        Check.due("none in 2 turns", x.pass(2), 0);
        Check.due("one in 1 turn", x.pass(1), 1);
    }

    /** Undoable, as one call. */
    private static void passIsUndoneAsOneCall() {
        CanyonBall x = Scenes.busy();
        x.undo();
        long before = x.digest();
        x.pass(99);
        Check.due("six states", x.count(11), 6);
        Check.due("undo", x.undo(), 5);
        Check.due("all as before", x.digest(), before);
    }

    /**
     * pass throws IllegalStateException if the clock would be above 99999. No 512 calls come so far (each is 99 turns at
     * most), so that what this test sees is free; the program keeps the limit there too.
     */
    private static void clockUpTo99999() {
        CanyonBall x = new CanyonBall();
        for (int i = 0; i < 1009; i++) {
            x.pass(99);
        }
        Check.due("99891", x.count(0), 99891);
        Check.due("to 99990", x.pass(99), 0);
        Check.dueThrow(x, "to 100000", IllegalStateException.class, () -> x.pass(10));
        Check.dueThrow(x, "to 100089", IllegalStateException.class, () -> x.pass(99));
        Check.dueThrow(x, "out of range first", IllegalArgumentException.class, () -> x.pass(100));
        Check.due("to 99999", x.pass(9), 0);
        Check.dueThrow(x, "behind 99999", IllegalStateException.class, () -> x.pass(1));
        Check.due("a run of it does none", Check.runText(x, "t1;m0+1"), 0);
        Check.due("it isn't counted as refused", x.count(10), 0);
        Check.due("and clears the buffer", x.clearBuffer(), 0);
        Check.due("the clock stays", x.count(0), 99999);
    }
}
