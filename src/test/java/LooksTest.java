/** Promises 14 to 25: the looks, what would be, and the digest. */
public final class LooksTest {
    private static final Class<IndexOutOfBoundsException> INDEX = IndexOutOfBoundsException.class;
    private static final Class<IllegalArgumentException> ARGUMENT = IllegalArgumentException.class;

    private LooksTest() {
    }

    public static void main(String[] args) {
        promise14PlayerOf();
        promise15EchoOf();
        promise15EchoOfClash();
        promise16Count();
        promise17Setting();
        promise18BallIn();
        promise19EchoIn();
        promise20WouldClash();
        promise21CallIn();
        promise21CallInWaits();
        promise22QuietIn();
        promise23Best();
        promise24AnsweredShare();
        promise25Digest();
        Check.end();
    }

    /** Player 0 has called thrice: one echo is lost, four have clashed; player 3 has caught the ball. */
    private static CanyonBall busy() {
        CanyonBall x = new CanyonBall();
        x.call(0, 1);
        x.pass(4);
        x.walk(0, 4);
        x.call(0, 2);
        x.pass(6);
        x.throwBall(0, 1, true);
        x.call(3, 4);
        x.pass(8);
        x.walk(3, 9);
        return x;
    }

    private static void promise14PlayerOf() {
        CanyonBall x = busy();
        int[] zero = {6, 0, 2, 0, 1, 2, 1};
        int[] three = {8, 1, 1, 0, 2, 0, 0};
        for (int what = 0; what < 7; what++) {
            int property = what;
            Check.dueLook(x, "playerOf(0, " + what + ")", zero[what], () -> x.playerOf(0, property));
            Check.dueLook(x, "playerOf(3, " + what + ")", three[what], () -> x.playerOf(3, property));
        }
        x.call(3, 0);
        Check.due("under way", x.playerOf(3, 3), 2);
        Check.dueThrow(x, "playerOf(-1, 0)", INDEX, () -> x.playerOf(-1, 0));
        Check.dueThrow(x, "playerOf(4, 7)", INDEX, () -> x.playerOf(4, 7));
        Check.dueThrow(x, "playerOf(0, 7)", ARGUMENT, () -> x.playerOf(0, 7));
        Check.dueThrow(x, "playerOf(0, -1)", ARGUMENT, () -> x.playerOf(0, -1));
    }

    private static void dueEcho(CanyonBall x, int rank, int... want) {
        for (int what = 0; what < 6; what++) {
            int property = what;
            Check.dueLook(x, "echoOf(" + rank + ", " + what + ")", want[what], () -> x.echoOf(rank, property));
        }
    }

    private static void promise15EchoOf() {
        CanyonBall x = new CanyonBall();
        x.call(3, 1);
        x.call(2, 2);
        x.call(1, 3);
        // Due in 5: 3's right one, then 1's left one, by the order of calls.
        dueEcho(x, 0, 3, 8, 1, 5, 1, 0);
        dueEcho(x, 1, 1, 4, 3, 5, 0, 0);
        // Both of one call: that of the left wall first.
        dueEcho(x, 2, 2, 6, 2, 6, 0, 1);
        dueEcho(x, 3, 2, 6, 2, 6, 1, 1);
        dueEcho(x, 4, 3, 8, 1, 8, 0, 0);
        dueEcho(x, 5, 1, 4, 3, 8, 1, 0);
        dueEcho(x, 6, -1, -1, -1, -1, -1, -1);
        dueEcho(x, Integer.MAX_VALUE, -1, -1, -1, -1, -1, -1);
        x.walk(1, 1);
        x.pass(5);
        dueEcho(x, 0, 2, 6, 2, 1, 0, 1);
        dueEcho(x, 3, 1, 4, 3, 3, 1, 0);
        dueEcho(x, 4, -1, -1, -1, -1, -1, -1);
        Check.dueThrow(x, "echoOf(-1, 0)", ARGUMENT, () -> x.echoOf(-1, 0));
        Check.dueThrow(x, "echoOf(0, 6)", ARGUMENT, () -> x.echoOf(0, 6));
        Check.dueThrow(x, "echoOf(99, -1)", ARGUMENT, () -> x.echoOf(99, -1));
    }

    private static void promise15EchoOfClash() {
        CanyonBall x = new CanyonBall();
        x.walk(1, -2);
        x.call(0, 0);
        Check.due("alone", x.echoOf(0, 5), 0);
        x.pass(1);
        x.call(1, 0);
        Check.due("a turn later at the same place", x.echoOf(0, 5), 0);
        x.undo();
        x.undo();
        x.call(1, 0);
        for (int rank = 0; rank < 4; rank++) {
            Check.due("two calls at once at one place", x.echoOf(rank, 5), 1);
        }
        x.undo();
        x.pass(5);
        x.call(1, 0);
        // 0's right one is due at 9, 1's left one at 5 + 4.
        Check.due("echoes of other walls clash", x.echoOf(0, 5), 1);
        Check.due("both of them", x.echoOf(1, 5), 1);
        Check.due("not the last one", x.echoOf(2, 5), 0);
    }

    private static void promise16Count() {
        CanyonBall x = busy();
        x.call(1, 0);
        int[] want = {18, 8, 2, 1, 2, 8, 3, 2, 1, 1, 1, 6};
        for (int what = 0; what < 12; what++) {
            int number = what;
            Check.dueLook(x, "count(" + what + ")", want[what], () -> x.count(number));
        }
        Check.dueThrow(x, "count(12)", ARGUMENT, () -> x.count(12));
        Check.dueThrow(x, "count(-1)", ARGUMENT, () -> x.count(-1));
    }

    private static void promise17Setting() {
        CanyonBall x = new CanyonBall();
        x.set(0, 20);
        x.set(1, 5);
        x.set(2, 1);
        Check.dueLook(x, "setting(0)", 20, () -> x.setting(0));
        Check.dueLook(x, "setting(1)", 5, () -> x.setting(1));
        Check.dueLook(x, "setting(2)", 1, () -> x.setting(2));
        Check.dueThrow(x, "setting(3)", INDEX, () -> x.setting(3));
        Check.dueThrow(x, "setting(-1)", INDEX, () -> x.setting(-1));
    }

    private static void promise18BallIn() {
        CanyonBall x = new CanyonBall();
        int[] turns = {0, 1, 11, 12, 13, 24, 25, 99};
        int[] places = {0, 1, 11, 12, 11, 0, 1, 3};
        int[] rights = {1, 1, 1, 1, 0, 0, 1, 1};
        for (int i = 0; i < turns.length; i++) {
            int turn = turns[i];
            Check.dueLook(x, "ballIn(" + turn + ", 0)", places[i], () -> x.ballIn(turn, 0));
            Check.dueLook(x, "ballIn(" + turn + ", 1)", places[i], () -> x.ballIn(turn, 1));
            Check.dueLook(x, "ballIn(" + turn + ", 2)", rights[i], () -> x.ballIn(turn, 2));
        }
        x.throwBall(12, 9, true);
        Check.due("from the wall", x.ballIn(1, 0), 3);
        Check.due("unfolded", x.ballIn(1, 1), 3);
        x.throwBall(0, 9, false);
        Check.due("from the left wall", x.ballIn(99, 0), 3);
        Check.due("unfolded", x.ballIn(99, 1), 3);
        Check.due("to the right", x.ballIn(99, 2), 1);
        Check.due("now still to the left", x.ballIn(0, 2), 0);
        bothWaysAgree();
        x.throwBall(0, 1, true);
        x.call(3, 0);
        Check.due("if nobody caught it", x.ballIn(9, 0), 9);
        Check.dueThrow(x, "ballIn(-1, 0)", ARGUMENT, () -> x.ballIn(-1, 0));
        Check.dueThrow(x, "ballIn(100, 0)", ARGUMENT, () -> x.ballIn(100, 0));
        Check.dueThrow(x, "ballIn(0, -1)", ARGUMENT, () -> x.ballIn(0, -1));
        Check.dueThrow(x, "ballIn(0, 3)", ARGUMENT, () -> x.ballIn(0, 3));
    }

    private static void bothWaysAgree() {
        for (int last = 8; last <= 40; last += 8) {
            CanyonBall x = new CanyonBall();
            x.set(0, last);
            for (int place = 0; place <= last; place++) {
                for (int speed = 1; speed <= 9; speed++) {
                    for (int turns = 0; turns <= 99; turns += 3) {
                        x.throwBall(place, speed, (place + speed) % 2 == 0);
                        Check.due("both ways", x.ballIn(turns, 0), x.ballIn(turns, 1));
                    }
                }
            }
        }
    }

    private static void promise19EchoIn() {
        CanyonBall x = new CanyonBall();
        int[][] want = {{4, 9}, {5, 8}, {6, 6}, {8, 5}};
        for (int player = 0; player < 4; player++) {
            for (int wall = 0; wall < 2; wall++) {
                int p = player;
                int w = wall;
                Check.dueLook(x, "echoIn(" + p + ", " + w + ")", want[p][w], () -> x.echoIn(p, w));
            }
        }
        x.set(2, 0);
        x.set(1, 4);
        Check.due("4 / 4 is not rounded", x.echoIn(0, 0), 1);
        Check.due("20 / 4", x.echoIn(0, 1), 5);
        x.set(1, 1);
        x.set(0, 40);
        Check.due("76 turns", x.echoIn(0, 1), 76);
        x.walk(0, -2);
        Check.due("at the wall at least 1", x.echoIn(0, 0), 1);
        Check.dueThrow(x, "echoIn(-1, 0)", INDEX, () -> x.echoIn(-1, 0));
        Check.dueThrow(x, "echoIn(4, 2)", INDEX, () -> x.echoIn(4, 2));
        Check.dueThrow(x, "echoIn(0, 2)", ARGUMENT, () -> x.echoIn(0, 2));
        Check.dueThrow(x, "echoIn(0, -1)", ARGUMENT, () -> x.echoIn(0, -1));
    }

    private static void promise20WouldClash() {
        CanyonBall x = new CanyonBall();
        Check.dueLook(x, "wouldClash(0, 0)", 0, () -> x.wouldClash(0, 0));
        Check.dueLook(x, "wouldClash(2, 0): with that of the other wall", 1, () -> x.wouldClash(2, 0));
        Check.dueLook(x, "wouldClash(2, 1)", 1, () -> x.wouldClash(2, 1));
        x.call(0, 0);
        Check.due("with an own one", x.wouldClash(0, 0), 1);
        Check.due("with an own one of the right wall", x.wouldClash(0, 1), 1);
        Check.due("not at another place", x.wouldClash(1, 0), 0);
        x.pass(5);
        Check.due("the left one with the right one under way", x.wouldClash(0, 0), 1);
        Check.due("the right one then not", x.wouldClash(0, 1), 0);
        x.walk(1, -2);
        Check.due("another player's", x.wouldClash(1, 0), 1);
        CanyonBall y = new CanyonBall();
        y.call(0, 0);
        y.call(0, 0);
        y.call(0, 0);
        Check.due("also with 6 under way", y.wouldClash(0, 0), 1);
        y.walk(0, 1);
        Check.due("from another place", y.wouldClash(0, 0), 0);
        Check.dueThrow(y, "wouldClash(-1, 0)", INDEX, () -> y.wouldClash(-1, 0));
        Check.dueThrow(y, "wouldClash(4, 2)", INDEX, () -> y.wouldClash(4, 2));
        Check.dueThrow(y, "wouldClash(0, 2)", ARGUMENT, () -> y.wouldClash(0, 2));
        Check.dueThrow(y, "wouldClash(0, -1)", ARGUMENT, () -> y.wouldClash(0, -1));
    }

    private static void promise21CallIn() {
        CanyonBall x = new CanyonBall();
        int[] want = {13, 12, -1, 0};
        for (int player = 0; player < 4; player++) {
            int p = player;
            Check.dueLook(x, "callIn(" + p + ")", want[p], () -> x.callIn(p));
        }
        x.call(3, 0);
        // The left one would clash now; the ball is at 8 again in 16 turns, which are 8 + 8 or 11 + 5.
        Check.due("not with one under way", x.callIn(3), 8);
        x.walk(2, 2);
        Check.due("nor with another player's", x.callIn(2), 8);
        x.undo();
        x.call(3, 0);
        x.call(3, 0);
        Check.due("with 6 echoes under way", x.callIn(3), 8);
        Check.dueThrow(x, "callIn(-1)", INDEX, () -> x.callIn(-1));
        Check.dueThrow(x, "callIn(4)", INDEX, () -> x.callIn(4));
    }

    private static void promise21CallInWaits() {
        CanyonBall x = new CanyonBall();
        x.set(0, 40);
        x.set(1, 9);
        x.set(2, 0);
        // From 2 an echo of the left wall takes 1 turn, of the right one 9.
        x.throwBall(2, 1, true);
        // The ball is back at 2 in 76 turns, and in 80.
        Check.due("above 60: none, the wait would be 67", x.callIn(0), CanyonBall.NONE);
        x.throwBall(9, 1, true);
        // The ball is at 2 in 69 turns: 60 of them to wait, for the echo of the right wall.
        Check.due("60 turns are waited", x.callIn(0), 60);
        x.throwBall(8, 1, true);
        Check.due("61 turns are not", x.callIn(0), CanyonBall.NONE);
        x.throwBall(1, 1, true);
        Check.due("in the next turn", x.callIn(0), 0);
        x.throwBall(2, 9, true);
        x.set(0, 8);
        // Positions go round in 16: the ball is at 2 at 2 and 14, so in the turns with 9 * t = 0 or 12.
        Check.due("fast: in the turn 12, after 2 turns for the right one", x.callIn(0), 10);
    }

    private static void promise22QuietIn() {
        CanyonBall x = new CanyonBall();
        Check.dueLook(x, "quietIn", 0, () -> x.quietIn());
        x.call(0, 0);
        Check.dueLook(x, "quietIn", 9, () -> x.quietIn());
        x.pass(2);
        Check.due("quietIn", x.quietIn(), 7);
        x.call(2, 0);
        Check.due("a later call is due sooner", x.quietIn(), 7);
        x.pass(7);
        Check.due("quietIn", x.quietIn(), 0);
    }

    private static void promise23Best() {
        CanyonBall x = new CanyonBall();
        Check.dueLook(x, "best of equal ones", 0, () -> x.best());
        x.throwBall(12, 1, true);
        x.call(1, 0);
        x.call(3, 0);
        x.pass(5);
        Check.due("of equal answers the lowest", x.best(), 1);
        x.throwBall(12, 1, true);
        x.pass(3);
        x.call(3, 0);
        x.throwBall(12, 1, true);
        x.pass(5);
        Check.due("most answered", x.best(), 3);
        x.throwBall(12, 1, true);
        x.pass(3);
        Check.due("none is caught", x.count(9), 0);
        x.call(1, 1);
        x.pass(4);
        x.throwBall(3, 1, true);
        Check.due("caught", x.pass(1), 1);
        Check.due("answers of 3 are more", x.playerOf(3, 4), 4);
        Check.due("answers of 1 are less", x.playerOf(1, 4), 3);
        Check.due("but the most caught", x.best(), 1);
    }

    private static void promise24AnsweredShare() {
        CanyonBall x = new CanyonBall();
        Check.dueShare("without any", x.answeredShare(), 1.0);
        x.call(0, 0);
        Check.dueShare("none has come back", x.answeredShare(), 1.0);
        x.walk(0, 1);
        x.pass(4);
        Check.dueShare("lost", x.answeredShare(), 0.0);
        x.walk(0, -1);
        x.pass(5);
        Check.dueShare("one of two", x.answeredShare(), 0.5);
        x.call(2, 0);
        x.pass(6);
        Check.dueShare("clashed ones count", x.answeredShare(), 0.25);
        x.call(2, 0);
        x.pass(6);
        Check.dueShare("a sixth", x.answeredShare(), 1.0 / 6.0);
        Check.dueShare("of busy", busy().answeredShare(), 3.0 / 6.0);
    }

    private static void promise25Digest() {
        CanyonBall x = new CanyonBall();
        Check.due("digest of a new object", x.digest(), digestOf(x, "", false, false));
        x.call(2, 3);
        x.call(0, 3);
        x.pass(5);
        x.keep(1);
        Check.write(x, "c0;~!");
        Check.due("digest", x.digest(), digestOf(x, "c0;~!", false, true));
        CanyonBall y = busy();
        y.keep(0);
        Check.due("digest of busy", y.digest(), digestOf(y, "", true, false));
        y.call(0, 0);
        y.pass(9);
        Check.due("digest with other shares", y.digest(), digestOf(y, "", true, false));
        Check.due("no saved state is made by it", y.count(11), 6);
        CanyonBall z = new CanyonBall();
        z.call(0, 0);
        z.walk(0, 1);
        z.pass(9);
        Check.dueShare("a share of 0", z.answeredShare(), 0.0);
        Check.due("digest with a share of 0", z.digest(), digestOf(z, "", false, false));
        z.call(1, 0);
        z.pass(5);
        Check.dueShare("a share of a third", z.answeredShare(), 1.0 / 3.0);
        Check.due("digest with a share of a third", z.digest(), digestOf(z, "", false, false));
    }

    /** The digest as the document tells it, from the public looks alone. */
    static long digestOf(CanyonBall x, String buffer, boolean kept0, boolean kept1) {
        long hash = 3467;
        for (int what = 0; what < 12; what++) {
            hash = 31 * hash + x.count(what);
        }
        for (int i = 0; i < 3; i++) {
            hash = 31 * hash + x.setting(i);
        }
        for (int player = 0; player < 4; player++) {
            for (int what = 0; what < 7; what++) {
                hash = 31 * hash + x.playerOf(player, what);
            }
            hash = 31 * hash + x.echoIn(player, 0);
            hash = 31 * hash + x.wouldClash(player, 0);
            hash = 31 * hash + x.echoIn(player, 1);
            hash = 31 * hash + x.wouldClash(player, 1);
            hash = 31 * hash + x.callIn(player);
        }
        for (int rank = 0; rank < x.count(4); rank++) {
            for (int what = 0; what < 6; what++) {
                hash = 31 * hash + x.echoOf(rank, what);
            }
        }
        for (int turns = 7; turns <= 50; turns += 43) {
            for (int what = 0; what < 3; what++) {
                hash = 31 * hash + x.ballIn(turns, what);
            }
        }
        hash = 31 * hash + x.quietIn();
        hash = 31 * hash + x.best();
        hash = 31 * hash + Double.doubleToLongBits(x.answeredShare());
        hash = 31 * hash + (kept0 ? 1 : 0);
        hash = 31 * hash + (kept1 ? 1 : 0);
        hash = 31 * hash + buffer.length();
        for (int i = 0; i < buffer.length(); i++) {
            hash = 31 * hash + buffer.charAt(i);
        }
        return hash;
    }
}
