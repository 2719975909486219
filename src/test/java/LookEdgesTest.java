/** The edges of promises 14 to 25: the looks, what would be, and the digest. */
public final class LookEdgesTest {
    private static final int NONE = CanyonBall.NONE;

    private LookEdgesTest() {
    }

    public static void main(String[] args) {
        looksChangeNothing();
        playerOfEachProperty();
        playerOfNoneAndAll();
        echoOfNone();
        echoOfTheLastRank();
        echoOfByWhenDue();
        echoOfByTheOrderOfCalls();
        echoOfLeftWallFirst();
        echoOfWillClash();
        countSentTwoForEachCall();
        countOfEachThatComesBack();
        countRefused();
        countSavedStates();
        settingIsNotClamped();
        ballInNoTurns();
        ballInNinetyNineTurns();
        ballInTwoWays();
        ballInIfNobodyCaughtIt();
        echoInIsAsCall();
        wouldClashWithOneUnderWay();
        wouldClashWithTheOtherWall();
        wouldClashWithSixEchoes();
        wouldClashIsAsCall();
        callInWaitsFrom0();
        callInWaitsTo60();
        callInOfEitherWall();
        callInDoesNotClash();
        callInOfTheMiddle();
        callInIsKept();
        quietInFrom0To85();
        bestOfEqualOnes();
        bestCaughtAheadOfAnswered();
        shareOfNone();
        shareOfAll();
        digestEmptyAndFull();
        digestTellsEachApart();
        Check.end();
    }

    /** Looks, and what would be: nothing is changed. */
    private static void looksChangeNothing() {
        Check.Scene[] scenes = {Scenes::fresh, Scenes::busy, Scenes::fullBuffer};
        for (Check.Scene scene : scenes) {
            CanyonBall x = scene.made();
            for (int i = 0; i < 28; i++) {
                x.playerOf(i / 7, i % 7);
                x.echoOf(i, i % 6);
                x.count(i % 12);
                x.setting(i % 3);
                x.ballIn(i * 3, i % 3);
                x.echoIn(i % 4, i / 4 % 2);
                x.wouldClash(i % 4, i / 4 % 2);
                x.callIn(i % 4);
            }
            x.quietIn();
            x.best();
            x.answeredShare();
            x.digest();
            Check.dueWhole("looks change nothing", x, scene.made());
        }
    }

    /** 0: the place; 1: balls caught; 2: calls; 3: echoes under way; 4: answered; 5: clashed; 6: lost: of each player. */
    private static void playerOfEachProperty() {
        for (int player = 0; player < 4; player++) {
            CanyonBall x = new CanyonBall();
            // At 3 of 12: due in 4 and in 8 turns.
            Check.walkTo(x, player, 3);
            x.throwBall(12, 1, false);
            for (int i = 0; i < 3; i++) {
                x.call(player, 1);
            }
            x.pass(8);
            x.call(player, 1);
            x.pass(4);
            x.walk(player, 1);
            x.pass(4);
            x.walk(player, -1);
            x.call(player, 1);
            x.pass(3);
            x.throwBall(4, 1, false);
            x.pass(1);
            x.walk(player, 6);
            int[] want = {9, 1, 5, 1, 2, 6, 1};
            for (int what = 0; what < 7; what++) {
                Check.due("playerOf(" + player + ", " + what + ")", x.playerOf(player, what), want[what]);
                int other = (player + 1) % 4;
                Check.due("of another one", x.playerOf(other, what), what == 0 ? 2 * other + 2 : 0);
            }
        }
    }

    /** The same: the place from 0 to setting 0, the echoes under way from 0 to 6. */
    private static void playerOfNoneAndAll() {
        CanyonBall x = Scenes.busy();
        for (int player = 0; player < 4; player++) {
            Check.due("6 under way", x.playerOf(player, 3), 6);
        }
        x.pass(99);
        for (int player = 0; player < 4; player++) {
            Check.due("0 under way", x.playerOf(player, 3), 0);
            Check.due("each one has come back", x.playerOf(player, 4) + x.playerOf(player, 5) + x.playerOf(player, 6),
                2 * x.playerOf(player, 2));
        }
    }

    /** echoOf: NONE if there are not so many: of none. */
    private static void echoOfNone() {
        CanyonBall x = new CanyonBall();
        int[] ranks = {0, 1, 23, 24, Integer.MAX_VALUE};
        for (int rank : ranks) {
            for (int what = 0; what < 6; what++) {
                Check.due("of none, echoOf(" + rank + ", " + what + ")", x.echoOf(rank, what), NONE);
            }
        }
        x.call(2, 1);
        x.pass(6);
        Check.due("all have come back", x.echoOf(0, 0), NONE);
    }

    /** rank: from 0; NONE if there are not so many: up to the last one there is something. */
    private static void echoOfTheLastRank() {
        CanyonBall x = new CanyonBall();
        for (int calls = 1; calls <= 12; calls++) {
            x.call(calls % 4, calls % 10);
            for (int what = 0; what < 6; what++) {
                int last = 2 * calls - 1;
                Check.due("rank " + last + " is one", x.echoOf(last, what) == NONE ? 1 : 0, 0);
                Check.due("rank " + (last + 1) + " is none", x.echoOf(last + 1, what), NONE);
            }
        }
        Check.due("24 of them", x.count(4), 24);
    }

    private static void dueEchoes(String what, CanyonBall x, int[][] want) {
        for (int rank = 0; rank < want.length; rank++) {
            for (int i = 0; i < 6; i++) {
                Check.due(what + ": echoOf(" + rank + ", " + i + ")", x.echoOf(rank, i), want[rank][i]);
            }
        }
        Check.due(what + ": no more", x.echoOf(want.length, 0), NONE);
    }

    /** They are told by when they are due: a later call that is due sooner comes first. */
    private static void echoOfByWhenDue() {
        CanyonBall x = new CanyonBall();
        x.call(0, 7);
        x.pass(4);
        x.call(3, 8);
        // Due at 9 both: player 0's right one, called first, and player 3's right one.
        x.walk(1, -4);
        x.call(1, 9);
        dueEchoes("a later call sooner", x, new int[][] {{1, 0, 9, 2, 0, 0}, {0, 2, 7, 5, 1, 0}, {3, 8, 8, 5, 1, 0},
            {3, 8, 8, 8, 0, 0}, {1, 0, 9, 10, 1, 0}});
        x.pass(1);
        Check.due("a turn later", x.echoOf(0, 3), 1);
        Check.due("a turn later, the last one", x.echoOf(4, 3), 9);
    }

    /** Of those due at once by the order of calls, not by players, nor by places, nor by walls. */
    private static void echoOfByTheOrderOfCalls() {
        CanyonBall x = new CanyonBall();
        x.call(3, 1);
        x.call(1, 2);
        x.pass(3);
        x.call(1, 3);
        // Due at 8: 3's left one, 1's right one, and 1's left one of the later call.
        x.pass(3);
        dueEchoes("due at 8", x, new int[][] {{3, 8, 1, 2, 0, 0}, {1, 4, 2, 2, 1, 1}, {1, 4, 3, 2, 0, 1}, {1, 4, 3, 5, 1, 0}});
        CanyonBall y = Scenes.allAt(4);
        int[] order = {2, 0, 3, 1, 2, 1, 0, 3};
        for (int i = 0; i < 8; i++) {
            y.call(order[i], i);
        }
        for (int i = 0; i < 8; i++) {
            Check.due("left one of call " + i, y.echoOf(i, 0), order[i]);
            Check.due("word of call " + i, y.echoOf(i, 2), i);
            Check.due("right one of call " + i, y.echoOf(8 + i, 2), i);
        }
    }

    /** Of one call that of the left wall first. */
    private static void echoOfLeftWallFirst() {
        CanyonBall x = Scenes.allAt(6);
        x.call(3, 1);
        x.call(0, 2);
        dueEchoes("both at once", x, new int[][] {{3, 6, 1, 6, 0, 1}, {3, 6, 1, 6, 1, 1}, {0, 6, 2, 6, 0, 1}, {0, 6, 2, 6, 1, 1}});
    }

    /** 5: 1 if it will clash with another one that is under way now, otherwise 0. */
    private static void echoOfWillClash() {
        CanyonBall x = Scenes.allAt(2);
        x.call(0, 1);
        Check.due("not with itself", x.echoOf(0, 5) + x.echoOf(1, 5), 0);
        x.pass(4);
        x.call(1, 1);
        Check.due("not a turn apart", x.echoOf(0, 5) + x.echoOf(1, 5) + x.echoOf(2, 5), 0);
        x.undo();
        x.pass(1);
        x.call(1, 1);
        Check.due("both at 9", x.echoOf(0, 5) + x.echoOf(1, 5), 2);
        Check.due("not that at 14", x.echoOf(2, 5), 0);
        x.undo();
        x.walk(1, 1);
        x.pass(1);
        x.call(1, 1);
        Check.due("both due in 4, a place apart", x.echoOf(0, 5) + x.echoOf(1, 5), 0);
        Check.due("they clash wherever the players are", clashingWalkers(), 4);
    }

    private static int clashingWalkers() {
        CanyonBall x = Scenes.allAt(2);
        x.call(0, 1);
        x.call(1, 1);
        x.walk(0, 5);
        x.walk(1, -1);
        return x.echoOf(0, 5) + x.echoOf(1, 5) + x.echoOf(2, 5) + x.echoOf(3, 5);
    }

    /** 4: echoes under way; 5: echoes sent so far, two for each call. */
    private static void countSentTwoForEachCall() {
        CanyonBall x = new CanyonBall();
        for (int calls = 0; calls < 12; calls++) {
            Check.due("sent by " + calls + " calls", x.count(5), 2 * calls);
            Check.due("under way of " + calls + " calls", x.count(4), 2 * calls);
            x.call(calls % 4, 0);
        }
        x.call(0, 0);
        Check.due("a refused call sends none", x.count(5), 24);
        x.pass(99);
        Check.due("sent so far", x.count(5), 24);
        Check.due("under way", x.count(4), 0);
        x.call(0, 0);
        Check.due("sent so far", x.count(5), 26);
    }

    /** 6: echoes answered so far; 7: echoes that clashed so far; 8: echoes lost so far; 9: balls caught so far. */
    private static void countOfEachThatComesBack() {
        CanyonBall x = new CanyonBall();
        x.call(3, 4);
        x.call(0, 4);
        x.walk(0, 1);
        x.call(2, 4);
        int[][] want = {{3, 0, 0, 0, 0}, {4, 0, 0, 1, 0}, {5, 1, 0, 1, 0}, {6, 1, 2, 1, 0}, {7, 1, 2, 1, 0},
            {8, 2, 2, 1, 1}, {9, 2, 2, 2, 1}, {10, 2, 2, 2, 1}};
        x.pass(2);
        for (int[] row : want) {
            x.pass(1);
            Check.due("clock", x.count(0), row[0]);
            for (int i = 1; i < 5; i++) {
                Check.due("count(" + (5 + i) + ") at " + row[0], x.count(5 + i), row[i]);
            }
        }
    }

    /** 10: what was refused so far: calls and walks, and what a text does; not what throws. */
    private static void countRefused() {
        CanyonBall x = new CanyonBall();
        x.walk(0, -3);
        Check.due("a walk", x.count(10), 1);
        Check.runText(x, "c1=0;c1=0;c1=0;c1=0;c1=0");
        Check.due("one of a text", x.count(10), 2);
        x.call(1, 0);
        Check.due("a call", x.count(10), 3);
        Check.dueThrow(x, "what throws", IllegalArgumentException.class, () -> x.call(1, 10));
        Check.due("is not refused", x.count(10), 3);
        x.keep(0);
        x.walk(0, -3);
        Check.due("a walk more", x.count(10), 4);
        x.goBack(0);
        Check.due("as then", x.count(10), 3);
        x.undo();
        Check.due("as before goBack", x.count(10), 4);
    }

    /** 11: saved states: 0 to 6. */
    private static void countSavedStates() {
        CanyonBall x = new CanyonBall();
        for (int i = 0; i <= 7; i++) {
            Check.due("saved", x.count(11), Math.min(i, 6));
            x.pass(1);
        }
    }

    /** setting returns its value: the least and the most. */
    private static void settingIsNotClamped() {
        CanyonBall least = Scenes.canyon(8, 1, 0);
        CanyonBall most = Scenes.canyon(40, 9, 5);
        int[] leasts = {8, 1, 0};
        int[] mosts = {40, 9, 5};
        for (int i = 0; i < 3; i++) {
            Check.due("least of " + i, least.setting(i), leasts[i]);
            Check.due("most of " + i, most.setting(i), mosts[i]);
        }
    }

    /** ballIn, turns: 0: where it is, and how it goes now, also at a wall. */
    private static void ballInNoTurns() {
        int[] places = {0, 1, 7, 11, 12};
        for (int place : places) {
            for (int right = 0; right < 2; right++) {
                CanyonBall x = new CanyonBall();
                x.throwBall(place, 9, right == 1);
                Check.due("place " + place, x.ballIn(0, 0), place);
                Check.due("place " + place + ", unfolded", x.ballIn(0, 1), place);
                Check.due("to the right at " + place, x.ballIn(0, 2), right);
            }
        }
    }

    /** The same: 99. */
    private static void ballInNinetyNineTurns() {
        // The last place, the place, the speed, 1 if to the right; then the place and 1 if to the right.
        int[][] rows = {{12, 0, 1, 1, 3, 1}, {12, 12, 1, 0, 9, 0}, {12, 0, 9, 1, 3, 1}, {40, 0, 9, 1, 11, 1},
            {40, 40, 9, 1, 29, 0}, {8, 8, 9, 0, 3, 1}, {8, 5, 8, 1, 3, 0}, {13, 4, 5, 0, 3, 0}};
        for (int[] row : rows) {
            CanyonBall x = new CanyonBall();
            x.set(0, row[0]);
            x.throwBall(row[1], row[2], row[3] == 1);
            for (int i = 0; i < 3; i++) {
                Check.due("ballIn(99, " + i + ") of " + row[1] + " at " + row[2], x.ballIn(99, i), i < 2 ? row[4] : row[5]);
            }
            x.pass(99);
            Check.due("the ball comes there", x.count(1), row[4]);
            Check.due("and goes so", x.count(3), row[5]);
        }
    }

    /** Returns the number (the same for 0 and 1), and what the turns make of it. */
    private static void ballInTwoWays() {
        int[] lasts = {8, 9, 12, 39, 40};
        for (int last : lasts) {
            for (int speed = 1; speed <= 9; speed++) {
                for (int right = 0; right < 2; right++) {
                    for (int place = 0; place <= last; place += 4) {
                        CanyonBall x = new CanyonBall();
                        x.set(0, last);
                        x.throwBall(place, speed, right == 1);
                        dueBall(x);
                    }
                }
            }
        }
    }

    private static void dueBall(CanyonBall x) {
        int[][] told = new int[100][3];
        for (int turns = 0; turns < 100; turns++) {
            for (int what = 0; what < 3; what++) {
                told[turns][what] = x.ballIn(turns, what);
            }
        }
        for (int turns = 0; turns < 100; turns++) {
            Check.due("step by step in " + turns, told[turns][0], x.count(1));
            Check.due("unfolded in " + turns, told[turns][1], x.count(1));
            Check.due("to the right in " + turns, told[turns][2], x.count(3));
            x.pass(1);
        }
    }

    /** Tells where the ball would be, if nobody caught it. */
    private static void ballInIfNobodyCaughtIt() {
        CanyonBall x = new CanyonBall();
        x.call(3, 0);
        Check.due("would be", x.ballIn(9, 0), 9);
        Check.due("would be, unfolded", x.ballIn(9, 1), 9);
        Check.due("would go to the right", x.ballIn(9, 2), 1);
        Check.due("but it is caught", x.pass(9), 1);
        Check.due("is", x.count(1), 7);
    }

    /** echoIn is how a call would come back; a call of a player who may not call is told too. */
    private static void echoInIsAsCall() {
        for (int place = 0; place <= 12; place++) {
            CanyonBall x = Scenes.allAt(place);
            int left = x.echoIn(2, 0);
            int right = x.echoIn(2, 1);
            Check.due("call at " + place, x.call(2, 0), Math.min(left, right));
            Check.due("the last one", x.quietIn(), Math.max(left, right));
            x.call(2, 0);
            x.call(2, 0);
            Check.due("left, with 6 under way", x.echoIn(2, 0), left);
            Check.due("right, with 6 under way", x.echoIn(2, 1), right);
        }
    }

    /** wouldClash: with one that is under way: due at once, and to the same place. */
    private static void wouldClashWithOneUnderWay() {
        CanyonBall x = Scenes.allAt(2);
        x.call(0, 1);
        // Player 0's are due at 4 and at 9; a new one is due in 4 and in 9.
        int[] left = {1, 0, 0, 0, 0, 1, 0, 0, 0, 0};
        for (int turn = 0; turn < 10; turn++) {
            for (int player = 0; player < 4; player++) {
                Check.due("left one of " + player + " at " + turn, x.wouldClash(player, 0), left[turn]);
                Check.due("right one of " + player + " at " + turn, x.wouldClash(player, 1), turn == 0 ? 1 : 0);
            }
            x.pass(1);
        }
        CanyonBall y = Scenes.allAt(3);
        y.call(0, 1);
        y.walk(1, 1);
        y.walk(2, -1);
        Check.due("right one at 4, due at once with that to 3", y.wouldClash(1, 1), 0);
        Check.due("left one at 2, due at once with that to 3", y.wouldClash(2, 0), 0);
        Check.due("left one at 3", y.wouldClash(3, 0), 1);
    }

    /** Or with that of the other wall: from the middle, and where rounding up makes both the same. */
    private static void wouldClashWithTheOtherWall() {
        int[] ofNine = {0, 0, 0, 0, 0, 1, 1, 1, 0, 0, 0, 0, 0};
        int[] ofThree = {0, 0, 0, 0, 0, 0, 1, 0, 0, 0, 0, 0, 0};
        int[] ofSeven = {0, 0, 0, 0, 0, 1, 1, 1, 0, 0, 0, 0, 0};
        dueBothClash(9, ofNine);
        dueBothClash(3, ofThree);
        dueBothClash(7, ofSeven);
        CanyonBall odd = Scenes.canyon(13, 1, 0);
        Check.due("no middle: at 6 of 13", odd.wouldClash(2, 0) + odd.wouldClash(2, 1), 0);
        odd.walk(2, 1);
        Check.due("no middle: at 7 of 13", odd.wouldClash(2, 0) + odd.wouldClash(2, 1), 0);
    }

    private static void dueBothClash(int sound, int[] want) {
        for (int place = 0; place <= 12; place++) {
            CanyonBall x = Scenes.allAt(place);
            x.set(1, sound);
            Check.due("left one at " + place + ", " + sound, x.wouldClash(1, 0), want[place]);
            Check.due("right one at " + place + ", " + sound, x.wouldClash(1, 1), want[place]);
        }
    }

    /** If a player called now (also with 6 echoes under way). */
    private static void wouldClashWithSixEchoes() {
        CanyonBall x = Scenes.allAt(2);
        for (int i = 0; i < 3; i++) {
            x.call(0, i);
        }
        Check.due("a call is refused", x.call(0, 3), NONE);
        Check.due("left, with 6", x.wouldClash(0, 0), 1);
        Check.due("right, with 6", x.wouldClash(0, 1), 1);
        x.pass(1);
        Check.due("left, with 6, a turn later", x.wouldClash(0, 0), 0);
        Check.due("right, with 6, a turn later", x.wouldClash(0, 1), 0);
    }

    /** The same, told by what a call does then. */
    private static void wouldClashIsAsCall() {
        for (int place = 0; place <= 12; place++) {
            for (int wait = 0; wait <= 9; wait++) {
                CanyonBall x = Scenes.allAt(place);
                x.call(0, 1);
                x.pass(wait + 1);
                int left = x.wouldClash(1, 0);
                int right = x.wouldClash(1, 1);
                x.call(1, 1);
                int clashed = 0;
                for (int rank = 0; rank < x.count(4); rank++) {
                    boolean isNew = x.echoOf(rank, 0) == 1;
                    clashed += isNew ? x.echoOf(rank, 5) * (x.echoOf(rank, 4) + 1) : 0;
                }
                Check.due("at " + place + " after " + (wait + 1), left + 2 * right, clashed);
            }
        }
    }

    /** In the widest canyon sound goes 9 places: from 2 an echo takes 1 turn of the left wall, 9 of the right one. */
    private static CanyonBall fastSound(int ball, boolean isRight) {
        CanyonBall x = Scenes.canyon(40, 9, 0);
        x.throwBall(ball, 1, isRight);
        return x;
    }

    /** Sound goes 1 place: from 2 an echo takes 4 turns of the left wall, 76 of the right one. */
    private static CanyonBall slowSound(int ball, boolean isRight) {
        CanyonBall x = Scenes.canyon(40, 1, 0);
        x.throwBall(ball, 1, isRight);
        return x;
    }

    /** The least number of turns to wait, 0 to 60: 0, and none below it. */
    private static void callInWaitsFrom0() {
        Check.due("in 1 turn, of the left wall", fastSound(1, true).callIn(0), 0);
        Check.due("in 2 turns, of the left wall", fastSound(0, true).callIn(0), 1);
        Check.due("in 4 turns, of the left wall", slowSound(2, false).callIn(0), 0);
        Check.due("in 5 turns, of the left wall", slowSound(3, false).callIn(0), 1);
        // In 3 turns at 2 is too soon, then in 79, of the right wall.
        Check.due("in 3 turns is too soon", slowSound(1, false).callIn(0), 3);
        // In 76 turns from the left, of the right wall.
        Check.due("in 76 turns, of the right wall", slowSound(2, true).callIn(0), 0);
        // In 75 turns is too soon, then in 79.
        Check.due("in 75 turns is too soon", slowSound(3, true).callIn(0), 3);
    }

    /** The same: 60, and none above it. */
    private static void callInWaitsTo60() {
        // The ball is at 2 in 69 turns, on its way to the left wall: 60 and 9.
        Check.due("60, of the right wall", fastSound(9, true).callIn(0), 60);
        Check.due("61, of the right wall", fastSound(8, true).callIn(0), NONE);
        Check.due("59, of the right wall", fastSound(10, true).callIn(0), 59);
        // The ball is at 2 in 64 turns: 60 and 4.
        Check.due("60, of the left wall", slowSound(14, true).callIn(0), 60);
        Check.due("61, of the left wall", slowSound(13, true).callIn(0), NONE);
        Check.due("59, of the left wall", slowSound(15, true).callIn(0), 59);
    }

    /** Of one wall or of the other one: the least wait of both. */
    private static void callInOfEitherWall() {
        CanyonBall x = new CanyonBall();
        // Player 3's take 8 and 5 turns; the ball is at 8 in 8 turns and in 16.
        Check.due("of the left wall", x.callIn(3), 0);
        x.pass(1);
        Check.due("of the right wall", x.callIn(3), 2);
        x.pass(1);
        Check.due("a turn later", x.callIn(3), 1);
        x.pass(1);
        Check.due("of the right wall at once", x.callIn(3), 0);
        x.pass(1);
        Check.due("of the left wall later on", x.callIn(3), 4);
    }

    /** That does not clash with any that is under way now. */
    private static void callInDoesNotClash() {
        CanyonBall x = Scenes.allAt(8);
        x.call(0, 1);
        // The ball is at 8 in 8 turns, where an echo is under way; then in 16, in 5 after 11 or in 8 after 8.
        Check.due("with one under way", x.callIn(3), 8);
        x.undo();
        Check.due("without it", x.callIn(3), 0);
        x.walk(0, 1);
        x.call(0, 1);
        Check.due("with one under way to another place", x.callIn(3), 0);
        CanyonBall y = Scenes.allAt(8);
        y.pass(1);
        y.call(0, 1);
        // The ball is at 8 in 7 turns, of the right wall after 2; player 0's are due in 5 and in 8.
        Check.due("with two under way in other turns", y.callIn(3), 2);
    }

    /** Or with that of the other wall: from the middle there is none. */
    private static void callInOfTheMiddle() {
        CanyonBall x = new CanyonBall();
        Check.due("from the middle", x.callIn(2), NONE);
        x.walk(2, 1);
        Check.due("beside the middle", x.callIn(2) == NONE ? 1 : 0, 0);
        x.set(1, 9);
        Check.due("beside the middle, where rounding makes both the same", x.callIn(2), NONE);
    }

    /** What it tells is so: the player waits, calls, and meets the ball (that a player can have 6 does not matter). */
    private static void callInIsKept() {
        int caught = 0;
        for (int ball = 0; ball <= 12; ball++) {
            for (int speed = 1; speed <= 9; speed++) {
                CanyonBall x = new CanyonBall();
                x.throwBall(ball, speed, ball % 2 == 0);
                int wait = x.callIn(1);
                if (wait != NONE) {
                    if (wait > 0) {
                        x.pass(wait);
                    }
                    x.call(1, 1);
                    caught += x.pass(8) > 0 ? 0 : 1;
                }
            }
        }
        Check.due("not caught, though it was told so", caught, 0);
        CanyonBall x = new CanyonBall();
        for (int i = 0; i < 3; i++) {
            x.call(3, 1);
        }
        Check.due("with 6 under way", x.callIn(3), 8);
    }

    /** In how many turns the last echo that is under way is due; 0 without any. */
    private static void quietInFrom0To85() {
        CanyonBall x = Scenes.canyon(40, 1, 5);
        Check.due("without any", x.quietIn(), 0);
        Check.walkTo(x, 0, 0);
        x.call(0, 1);
        for (int left = 85; left >= 0; left--) {
            Check.due("quiet in", x.quietIn(), left);
            x.pass(1);
        }
        Check.due("without any again", x.quietIn(), 0);
        CanyonBall y = new CanyonBall();
        y.call(0, 1);
        y.call(2, 1);
        Check.due("the last one of an earlier call", y.quietIn(), 9);
        y.pass(7);
        y.call(1, 1);
        Check.due("the last one of a later call", y.quietIn(), 8);
    }

    /** Of several the one with the most echoes answered, of these the lowest. */
    private static void bestOfEqualOnes() {
        Check.due("all are equal", new CanyonBall().best(), 0);
        for (int low = 0; low < 4; low++) {
            for (int high = low + 1; high < 4; high++) {
                CanyonBall x = new CanyonBall();
                Check.walkTo(x, low, 3);
                Check.walkTo(x, high, 9);
                x.throwBall(0, 9, true);
                x.call(high, 1);
                x.call(low, 1);
                x.throwBall(12, 1, true);
                x.pass(4);
                Check.due(low + " and " + high + " have answered one each", x.count(6), 2);
                Check.due("the lowest", x.best(), low);
                x.walk(low, 1);
                x.throwBall(12, 1, true);
                x.pass(4);
                Check.due("none is caught", x.count(9), 0);
                Check.due("the one with two answered", x.best(), high);
            }
        }
    }

    /** The player with the most balls caught, also with fewer echoes answered than another. */
    private static void bestCaughtAheadOfAnswered() {
        for (int player = 0; player < 4; player++) {
            CanyonBall x = new CanyonBall();
            int other = (player + 1) % 4;
            Check.walkTo(x, other, 9);
            Check.walkTo(x, player, 3);
            x.throwBall(12, 1, true);
            x.call(other, 1);
            x.pass(8);
            Check.due("two answered, none caught", x.best(), other);
            x.call(player, 1);
            x.pass(3);
            x.throwBall(2, 1, true);
            Check.due("one answered and caught", x.pass(1), 1);
            Check.due("the one who has caught", x.best(), player);
            Check.due("answered by the other one", x.playerOf(other, 4), 2);
        }
    }

    /** answeredShare: 1.0 without any. */
    private static void shareOfNone() {
        CanyonBall x = new CanyonBall();
        Check.dueShare("of none", x.answeredShare(), 1.0);
        x.call(0, 1);
        x.walk(0, 1);
        x.pass(3);
        Check.dueShare("of two under way", x.answeredShare(), 1.0);
        x.pass(1);
        Check.dueShare("none of one", x.answeredShare(), 0.0);
        x.undo();
        Check.dueShare("undone", x.answeredShare(), 1.0);
    }

    /** The echoes answered so far as a double, divided by those that came back so far (answered, clashed or lost). */
    private static void shareOfAll() {
        CanyonBall x = new CanyonBall();
        x.call(0, 1);
        x.pass(9);
        Check.dueShare("two of two", x.answeredShare(), 1.0);
        x.call(2, 1);
        x.pass(6);
        Check.dueShare("two of four, two clashed", x.answeredShare(), 0.5);
        x.call(1, 1);
        x.walk(1, 1);
        x.pass(5);
        Check.dueShare("two of five, one lost", x.answeredShare(), 0.4);
        x.walk(1, -1);
        x.pass(3);
        Check.dueShare("three of six", x.answeredShare(), 0.5);
        x.call(0, 1);
        x.pass(4);
        Check.dueShare("four of seven", x.answeredShare(), 4.0 / 7.0);
    }

    /** The digest of an empty buffer without echoes, and of a full one with 24 of them; of each mix of slots. */
    private static void digestEmptyAndFull() {
        CanyonBall empty = new CanyonBall();
        Check.due("empty", empty.digest(), LooksTest.digestOf(empty, "", false, false));
        CanyonBall x = Scenes.busy();
        Check.due("24 echoes", x.digest(), LooksTest.digestOf(x, "c0=1;m", true, true));
        String text = "c0=1;m";
        while (text.length() < 60) {
            text = text + (text.length() % 2 == 0 ? '~' : '!');
            x.append(text.charAt(text.length() - 1));
        }
        Check.due("24 echoes, and 60 characters", x.digest(), LooksTest.digestOf(x, text, true, true));
        for (int slot = 0; slot < 2; slot++) {
            CanyonBall y = new CanyonBall();
            y.keep(slot);
            Check.due("slot " + slot, y.digest(), LooksTest.digestOf(y, "", slot == 0, slot == 1));
        }
        dueDigestsOfShares();
    }

    /** The bits of each share that up to 36 echoes can make, of which pairs are answered or lost. */
    private static void dueDigestsOfShares() {
        for (int lost = 0; lost < 12; lost++) {
            CanyonBall x = new CanyonBall();
            for (int i = 0; i < 18; i++) {
                x.call(1, 2);
                boolean isLost = i < lost;
                Check.walkTo(x, 1, isLost ? 5 : 4);
                x.pass(8);
                Check.walkTo(x, 1, 4);
                Check.due("digest, " + lost + " calls lost, of " + (i + 1), x.digest(), LooksTest.digestOf(x, "", false, false));
            }
        }
    }

    /** Each value counts: what differs in one of them alone has another digest. */
    private static void digestTellsEachApart() {
        CanyonBall x = new CanyonBall();
        CanyonBall y = new CanyonBall();
        x.append('a');
        y.append('b');
        Check.due("one code", x.digest() == y.digest() ? 1 : 0, 0);
        x.clearBuffer();
        y.clearBuffer();
        Check.due("as before", x.digest(), y.digest());
        x.keep(0);
        y.keep(1);
        Check.due("one slot or the other", x.digest() == y.digest() ? 1 : 0, 0);
        x.keep(1);
        y.keep(0);
        Check.due("both slots", x.digest(), y.digest());
        x.call(0, 1);
        y.call(0, 2);
        Check.due("one word", x.digest() == y.digest() ? 1 : 0, 0);
        x.undo();
        y.undo();
        x.throwBall(0, 1, true);
        y.throwBall(0, 1, false);
        Check.due("one direction", x.digest() == y.digest() ? 1 : 0, 0);
    }
}
