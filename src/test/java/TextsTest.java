/** Promises 7 to 13: append, clearBuffer, firstError, run, keep, goBack, undo. */
public final class TextsTest {
    private static final Class<IllegalArgumentException> ARGUMENT = IllegalArgumentException.class;
    private static final Class<IllegalStateException> STATE = IllegalStateException.class;

    private TextsTest() {
    }

    public static void main(String[] args) {
        promise7Append();
        promise8ClearBuffer();
        promise9FirstError();
        promise10Run();
        promise10RunStops();
        promise10RunIsOneCall();
        promise10RunWrongInputs();
        promise11Keep();
        promise12GoBack();
        promise12GoBackRestoresAll();
        promise13Undo();
        promise13SixStates();
        promise13UndoKeepsBufferAndSlots();
        Check.end();
    }

    private static void promise7Append() {
        CanyonBall x = new CanyonBall();
        Check.dueThrow(x, "append(32)", ARGUMENT, () -> x.append(32));
        Check.dueThrow(x, "append(127)", ARGUMENT, () -> x.append(127));
        Check.due("append(33)", x.append(33), 1);
        Check.due("append(126)", x.append(126), 2);
        for (int i = 3; i <= 60; i++) {
            Check.due("append('c')", x.append('c'), i);
        }
        Check.dueThrow(x, "append to a full buffer", STATE, () -> x.append('c'));
        Check.dueThrow(x, "append(32) to a full buffer", ARGUMENT, () -> x.append(32));
        Check.due("append is not undoable", x.count(11), 0);
    }

    private static void promise8ClearBuffer() {
        CanyonBall x = new CanyonBall();
        Check.write(x, "c0=1");
        Check.due("clearBuffer", x.clearBuffer(), 4);
        Check.due("clearBuffer again", x.clearBuffer(), 0);
        Check.due("append then", x.append('t'), 1);
        Check.due("clearBuffer is not undoable", x.count(11), 0);
    }

    private static void dueError(String text, int want) {
        CanyonBall x = new CanyonBall();
        Check.write(x, text);
        Check.dueLook(x, "firstError of " + text, want, () -> x.firstError());
    }

    private static void promise9FirstError() {
        String[] right = {"", "c", "c0", "c3", "c3=", "c3=0", "c3=9", "m", "m0", "m3+", "m3-", "m3-1", "m3+9", "t",
            "t1", "t9", "t10", "t99", "t1;", "t99;", "c0=0;", "m0+1;", "c0=0;m1-9;t50;t5", "t1;t1;c"};
        for (String text : right) {
            dueError(text, text.length());
        }
        String[] wrongAtEnd = {";", "x", "C", "0", "c4", "c;", "cc", "c00", "c0;", "c0+", "c0==", "c0=;", "c0=a",
            "c0=00", "c0=0=", "c0=0c", "m4", "m;", "m0=", "m01", "m0+0", "m0-0", "m0++", "m0+:", "m0+11", "m0-1-",
            "t0", "t;", "tt", "t100", "t9c", "t99c", "t1;;", "t1;0", "c0=0;x", "m0+/"};
        for (String text : wrongAtEnd) {
            dueError(text, text.length() - 1);
        }
        dueError("xc0=0", 0);
        dueError("c0=0;c9=9;x", 6);
        String full = "t1;t1;t1;t1;t1;t1;t1;t1;t1;t1;t1;t1;t1;t1;t1;t1;t1;t1;t1;";
        dueError(full + "t1;", 60);
        dueError(full + "t1c", 59);
        dueError(full + "c0=", 60);
    }

    private static void promise10Run() {
        CanyonBall x = new CanyonBall();
        Check.due("run", Check.runText(x, "c3=0;t7;m0+3;t1;m1-2;t12"), 6);
        Check.due("clock", x.count(0), 20);
        Check.due("the buffer is cleared", x.clearBuffer(), 0);
        Check.due("caught", x.playerOf(3, 1), 1);
        Check.due("place of 0", x.playerOf(0, 0), 5);
        Check.due("place of 1", x.playerOf(1, 0), 2);
        Check.due("ball: 8 turns to 8, then 8 back and 4 there", x.count(1), 4);
        CanyonBall y = new CanyonBall();
        Check.due("run t99", Check.runText(y, "t99"), 1);
        Check.due("clock", y.count(0), 99);
        Check.due("the first word", Check.runText(y, "c2=9"), 1);
        Check.due("who", y.echoOf(0, 0), 2);
        Check.due("word", y.echoOf(0, 2), 9);
        Check.due("run m2-6;m2+9", Check.runText(y, "m2-6;m2+9"), 2);
        Check.due("place", y.playerOf(2, 0), 9);
    }

    private static void promise10RunStops() {
        CanyonBall x = new CanyonBall();
        Check.due("a walk beyond a wall", Check.runText(x, "t1;m0-3;t1"), 1);
        Check.due("clock", x.count(0), 1);
        Check.due("counted as refused", x.count(10), 1);
        Check.due("the buffer is cleared", x.clearBuffer(), 0);
        Check.due("a fourth call", Check.runText(x, "c1=0;c1=0;c1=0;c1=0;t1"), 3);
        Check.due("counted as refused", x.count(10), 2);
        Check.due("clock", x.count(0), 1);
        int saved = x.count(11);
        Check.due("none is done", Check.runText(x, "m3+9"), 0);
        Check.due("saved also if none is done", x.count(11), saved + 1);
        x.undo();
        Check.due("undo takes back what was refused", x.count(10), 2);
    }

    private static void promise10RunIsOneCall() {
        CanyonBall x = new CanyonBall();
        Check.runText(x, "c0=1;m0+1;t1;t1;t1;m0-1;t1");
        Check.due("one state is saved", x.count(11), 1);
        Check.due("undo", x.undo(), 0);
        Check.due("clock", x.count(0), 0);
        Check.due("sent", x.count(5), 0);
        Check.due("the buffer stays cleared", x.clearBuffer(), 0);
    }

    private static void promise10RunWrongInputs() {
        String[] texts = {"", "c", "c0", "c0=", "m", "m0", "m0+", "t", "t1;", "t0", "t100", "c4=1", "c0=0;m0+1;x"};
        for (String text : texts) {
            CanyonBall x = new CanyonBall();
            Check.write(x, text);
            Check.dueThrow(x, "run of " + text, ARGUMENT, () -> x.run());
            Check.due("the buffer stays", x.clearBuffer(), text.length());
        }
    }

    private static void promise11Keep() {
        CanyonBall x = new CanyonBall();
        x.pass(5);
        Check.due("keep(1)", x.keep(1), 5);
        Check.due("keep is not undoable", x.count(11), 1);
        x.pass(2);
        Check.due("keep(1) in place of the other one", x.keep(1), 7);
        x.pass(1);
        Check.due("goBack(1)", x.goBack(1), 7);
        Check.dueThrow(x, "the other slot is empty", STATE, () -> x.goBack(0));
        Check.dueThrow(x, "keep(2)", ARGUMENT, () -> x.keep(2));
        Check.dueThrow(x, "keep(-1)", ARGUMENT, () -> x.keep(-1));
    }

    private static void promise12GoBack() {
        CanyonBall x = new CanyonBall();
        x.call(0, 7);
        x.set(2, 4);
        x.walk(3, 2);
        x.walk(3, 9);
        x.throwBall(5, 6, false);
        Check.due("keep(0)", x.keep(0), 0);
        int[] counts = new int[11];
        for (int what = 0; what < 11; what++) {
            counts[what] = x.count(what);
        }
        x.pass(20);
        x.set(2, 1);
        x.walk(3, -9);
        x.append('t');
        Check.due("goBack(0)", x.goBack(0), 0);
        for (int what = 0; what < 11; what++) {
            Check.due("count(" + what + ") then", x.count(what), counts[what]);
        }
        Check.due("setting(2)", x.setting(2), 4);
        Check.due("place of 3", x.playerOf(3, 0), 10);
        Check.due("word of the echo", x.echoOf(1, 2), 7);
        Check.due("the saved states stay, and one more is saved", x.count(11), 6);
        Check.due("the buffer stays", x.clearBuffer(), 1);
        x.undo();
        Check.due("goBack is undone", x.count(0), 20);
        Check.due("setting(2)", x.setting(2), 1);
        Check.due("the snapshot stays", x.goBack(0), 0);
        x.pass(3);
        Check.due("the snapshot stays as it is", x.goBack(0), 0);
        Check.dueThrow(x, "goBack(1)", STATE, () -> x.goBack(1));
        Check.dueThrow(x, "goBack(2)", ARGUMENT, () -> x.goBack(2));
        Check.dueThrow(x, "goBack(-1)", ARGUMENT, () -> x.goBack(-1));
    }

    /** A canyon with 24 echoes under way, others that were answered, lost and clashed, and one saved state. */
    private static CanyonBall full() {
        CanyonBall x = new CanyonBall();
        Check.runText(x, "c3=4;t8;c0=1;c2=2;m0+1;t9;m0-1;m0-3");
        Check.runText(x, "c0=1;c1=2;c2=3;c3=4;t2;c0=5;c1=6;c2=7;c3=8;t1;c0=9;c1=0");
        Check.due("two more calls", Check.runText(x, "c2=1;c3=2;c0=3"), 2);
        Check.due("24 echoes are under way", x.count(4), 24);
        for (int what = 6; what <= 10; what++) {
            Check.due("full: count(" + what + ") is told", x.count(what) > 0 ? 1 : 0, 1);
        }
        return x;
    }

    private static void promise12GoBackRestoresAll() {
        CanyonBall x = full();
        int[] atFirst = Check.told(x);
        x.keep(1);
        Check.due("run on", Check.runText(x, "t3;m1+2;m3-1;c1=9;t40;c0=3;c1=1;t2"), 3);
        Check.due("and on", Check.runText(x, "t40;c0=3;c1=1;t2"), 4);
        x.undo();
        x.set(1, 2);
        int[] later = Check.told(x);
        int saved = x.count(11);
        x.goBack(1);
        Check.dueTold("goBack(1)", x, atFirst);
        Check.due("undo of goBack", x.undo(), saved);
        Check.dueTold("undo of goBack", x, later);
        CanyonBall y = full();
        y.pass(30);
        y.undo();
        Check.dueTold("undo of pass", y, atFirst);
    }

    private static void promise13Undo() {
        CanyonBall x = new CanyonBall();
        long fresh = x.digest();
        x.call(3, 4);
        x.walk(0, -3);
        x.pass(8);
        Check.due("caught", x.count(9), 1);
        Check.due("undo of pass", x.undo(), 2);
        Check.due("not caught", x.count(9), 0);
        Check.due("under way again", x.count(4), 2);
        Check.due("refused", x.count(10), 1);
        Check.due("undo of a refused walk", x.undo(), 1);
        Check.due("refused no more", x.count(10), 0);
        Check.due("undo of call", x.undo(), 0);
        Check.due("all as at first", x.digest(), fresh);
        Check.dueThrow(x, "undo", STATE, () -> x.undo());
    }

    private static void promise13SixStates() {
        CanyonBall x = new CanyonBall();
        for (int i = 1; i <= 9; i++) {
            x.pass(i);
            Check.due("saved states", x.count(11), Math.min(i, 6));
        }
        int[] clocks = {36, 28, 21, 15, 10, 6};
        for (int i = 0; i < 6; i++) {
            Check.due("undo", x.undo(), 5 - i);
            Check.due("clock", x.count(0), clocks[i]);
        }
        Check.dueThrow(x, "a seventh undo", STATE, () -> x.undo());
    }

    private static void promise13UndoKeepsBufferAndSlots() {
        CanyonBall x = new CanyonBall();
        x.pass(3);
        Check.write(x, "t1");
        x.keep(0);
        x.undo();
        Check.due("the buffer stays", x.run(), 1);
        Check.due("the slot stays", x.goBack(0), 3);
    }
}
