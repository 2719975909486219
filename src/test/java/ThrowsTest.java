/**
 * 'Exceptions' of the document: each call that throws, with the first argument that is too small and the first that is
 * too large, on several objects. Each one must throw just the exception that is named first in the throws clause of
 * those that apply, and must change nothing, neither the buffer, nor a slot, nor a saved state.
 */
public final class ThrowsTest {
    private static final Class<IndexOutOfBoundsException> INDEX = IndexOutOfBoundsException.class;
    private static final Class<IllegalArgumentException> ARGUMENT = IllegalArgumentException.class;
    private static final Class<IllegalStateException> STATE = IllegalStateException.class;
    private static final int MIN = Integer.MIN_VALUE;
    private static final int MAX = Integer.MAX_VALUE;

    private static final Check.Scene[] SCENES = {Scenes::fresh, Scenes::busy, Scenes::fullBuffer};

    private ThrowsTest() {
    }

    public static void main(String[] args) {
        call();
        walk();
        throwBall();
        set();
        setTooLittle();
        pass();
        append();
        appendToAFullBuffer();
        runOfNoTurns();
        keep();
        goBack();
        undo();
        playerOf();
        echoOf();
        count();
        setting();
        ballIn();
        echoIn();
        wouldClash();
        callIn();
        Check.end();
    }

    private static void due(String what, Class<? extends RuntimeException> type, Check.Deed deed) {
        for (int i = 0; i < SCENES.length; i++) {
            Check.dueRefusal(what + " in scene " + i, SCENES[i], type, deed);
        }
    }

    private interface OfTwo {
        long answer(CanyonBall x, int first, int second);
    }

    /** The first argument is an index from 0 to mostFirst, the second one a number from least to most. */
    private static void dueOfTwo(String what, int mostFirst, int least, int most, OfTwo call) {
        int[] firsts = {-1, mostFirst + 1, MIN, MAX};
        int[] seconds = {least - 1, most + 1, MIN, MAX};
        for (int first : firsts) {
            due(what + "(" + first + ", " + least + ")", INDEX, x -> call.answer(x, first, least));
            due(what + "(" + first + ", " + most + ")", INDEX, x -> call.answer(x, first, most));
            for (int second : seconds) {
                due(what + "(" + first + ", " + second + ")", INDEX, x -> call.answer(x, first, second));
            }
        }
        for (int second : seconds) {
            due(what + "(0, " + second + ")", ARGUMENT, x -> call.answer(x, 0, second));
            due(what + "(" + mostFirst + ", " + second + ")", ARGUMENT, x -> call.answer(x, mostFirst, second));
        }
    }

    /** call: IndexOutOfBoundsException ahead of IllegalArgumentException. */
    private static void call() {
        dueOfTwo("call", 3, 0, 9, CanyonBall::call);
    }

    /** walk: IndexOutOfBoundsException ahead of IllegalArgumentException, and of no refusal. */
    private static void walk() {
        dueOfTwo("walk", 3, -9, 9, CanyonBall::walk);
    }

    private static void throwBall() {
        int[] places = {-1, MIN, MAX};
        for (int place : places) {
            due("throwBall(" + place + ", 1)", ARGUMENT, x -> x.throwBall(place, 1, true));
            due("throwBall(" + place + ", 0)", ARGUMENT, x -> x.throwBall(place, 0, false));
        }
        due("throwBall(setting 0 and 1 more)", ARGUMENT, x -> x.throwBall(x.setting(0) + 1, 9, false));
        int[] speeds = {0, 10, -1, MIN, MAX};
        for (int speed : speeds) {
            due("throwBall(0, " + speed + ")", ARGUMENT, x -> x.throwBall(0, speed, true));
            due("throwBall(setting 0, " + speed + ")", ARGUMENT, x -> x.throwBall(x.setting(0), speed, false));
            due("throwBall(setting 0 and 1 more, " + speed + ")", ARGUMENT, x -> x.throwBall(x.setting(0) + 1, speed, true));
        }
    }

    /** set: IndexOutOfBoundsException ahead of IllegalArgumentException. */
    private static void set() {
        int[] leasts = {8, 1, 0};
        int[] mosts = {40, 9, 5};
        for (int i = 0; i < 3; i++) {
            int setting = i;
            int[] values = {leasts[i] - 1, mosts[i] + 1, MIN, MAX};
            for (int value : values) {
                due("set(" + setting + ", " + value + ")", ARGUMENT, x -> x.set(setting, value));
            }
        }
        int[] settings = {-1, 3, MIN, MAX};
        int[] values = {MIN, -1, 0, 5, 8, 41, MAX};
        for (int setting : settings) {
            for (int value : values) {
                due("set(" + setting + ", " + value + ")", INDEX, x -> x.set(setting, value));
            }
        }
    }

    private static CanyonBall wide() {
        CanyonBall x = Scenes.canyon(40, 3, 2);
        Check.walkTo(x, 1, 30);
        x.throwBall(20, 1, true);
        return x;
    }

    /** set: IllegalArgumentException ahead of IllegalStateException, if both apply. */
    private static void setTooLittle() {
        Check.dueRefusal("set(0, 29)", ThrowsTest::wide, STATE, x -> x.set(0, 29));
        Check.dueRefusal("set(0, 20)", ThrowsTest::wide, STATE, x -> x.set(0, 20));
        Check.dueRefusal("set(0, 8)", ThrowsTest::wide, STATE, x -> x.set(0, 8));
        Check.dueRefusal("set(0, 7)", ThrowsTest::wide, ARGUMENT, x -> x.set(0, 7));
        Check.dueRefusal("set(0, MIN)", ThrowsTest::wide, ARGUMENT, x -> x.set(0, MIN));
        CanyonBall x = wide();
        Check.due("set(0, 30)", x.set(0, 30), 40);
        Check.due("set(1, 1): not of setting 1", x.set(1, 1), 3);
        Check.due("set(2, 0): not of setting 2", x.set(2, 0), 2);
    }

    /** pass: IllegalArgumentException ahead of IllegalStateException, also if the clock would be above 99999. */
    private static void pass() {
        int[] turns = {0, -1, 100, 99999, 100000, MIN, MAX};
        for (int turn : turns) {
            due("pass(" + turn + ")", ARGUMENT, x -> x.pass(turn));
        }
    }

    /** append: IllegalArgumentException ahead of IllegalStateException, if the buffer is full. */
    private static void append() {
        int[] codes = {32, 127, 0, -1, 255, 65536 + 'c', MIN, MAX};
        for (int code : codes) {
            due("append(" + code + ")", ARGUMENT, x -> x.append(code));
        }
    }

    private static void appendToAFullBuffer() {
        for (int i = 33; i <= 126; i++) {
            int code = i;
            Check.dueRefusal("append(" + code + ") to 60", Scenes::fullBuffer, STATE, x -> x.append(code));
        }
        CanyonBall x = Scenes.fullBuffer();
        x.clearBuffer();
        Check.due("a place is free", x.append('t'), 1);
    }

    private static void runOfNoTurns() {
        String[] texts = {"", "c", "c3", "c3=", "m", "m3", "m3+", "m3-", "t", ";", "c0=1;", "m0+1;", "t1;", "t99;",
            ";t1", "t1;;t1", "t0", "t01", "t100", "c4=0", "c0=10", "c0=", "m4+1", "m0+0", "m0+10", "m0=1", "c0+1", "t-1",
            "T1", "C0=1", "M0+1", "t1,t1", "t1t1", "!", "~"};
        for (String text : texts) {
            Check.dueRefusal("run of " + text, () -> {
                CanyonBall x = Scenes.busy();
                x.clearBuffer();
                Check.write(x, text);
                return x;
            }, ARGUMENT, x -> x.run());
        }
        Check.dueRefusal("run of an empty buffer", Scenes::fresh, ARGUMENT, x -> x.run());
        Check.dueRefusal("run of half an order", Scenes::busy, ARGUMENT, x -> x.run());
    }

    private static void keep() {
        int[] slots = {-1, 2, MIN, MAX};
        for (int slot : slots) {
            due("keep(" + slot + ")", ARGUMENT, x -> x.keep(slot));
        }
    }

    /** goBack: IllegalArgumentException ahead of IllegalStateException: there is no snapshot in no slot. */
    private static void goBack() {
        int[] slots = {-1, 2, MIN, MAX};
        for (int slot : slots) {
            due("goBack(" + slot + ")", ARGUMENT, x -> x.goBack(slot));
        }
        Check.dueRefusal("goBack(0), empty", Scenes::fresh, STATE, x -> x.goBack(0));
        Check.dueRefusal("goBack(1), empty", Scenes::fullBuffer, STATE, x -> x.goBack(1));
        for (int i = 0; i < 2; i++) {
            int kept = i;
            Check.dueRefusal("goBack, with the other slot kept", () -> {
                CanyonBall x = Scenes.fullBuffer();
                x.keep(kept);
                return x;
            }, STATE, x -> x.goBack(1 - kept));
        }
    }

    private static void undo() {
        Check.dueRefusal("undo of a new object", Scenes::fresh, STATE, x -> x.undo());
        Check.dueRefusal("undo when all is undone", () -> {
            CanyonBall x = Scenes.busy();
            for (int i = 0; i < 6; i++) {
                x.undo();
            }
            return x;
        }, STATE, x -> x.undo());
    }

    private static void playerOf() {
        dueOfTwo("playerOf", 3, 0, 6, CanyonBall::playerOf);
    }

    private static void echoOf() {
        int[] ranks = {-1, MIN};
        for (int rank : ranks) {
            due("echoOf(" + rank + ", 0)", ARGUMENT, x -> x.echoOf(rank, 0));
            due("echoOf(" + rank + ", 6)", ARGUMENT, x -> x.echoOf(rank, 6));
        }
        int[] whats = {-1, 6, MIN, MAX};
        for (int what : whats) {
            due("echoOf(0, " + what + ")", ARGUMENT, x -> x.echoOf(0, what));
            due("echoOf(23, " + what + ")", ARGUMENT, x -> x.echoOf(23, what));
            due("echoOf(MAX, " + what + "), of which there are not so many", ARGUMENT, x -> x.echoOf(MAX, what));
        }
    }

    private static void count() {
        int[] whats = {-1, 12, MIN, MAX};
        for (int what : whats) {
            due("count(" + what + ")", ARGUMENT, x -> x.count(what));
        }
    }

    private static void setting() {
        int[] settings = {-1, 3, MIN, MAX};
        for (int setting : settings) {
            due("setting(" + setting + ")", INDEX, x -> x.setting(setting));
        }
    }

    private static void ballIn() {
        int[] turns = {-1, 100, MIN, MAX};
        int[] whats = {-1, 3, MIN, MAX};
        for (int turn : turns) {
            for (int what = 0; what < 3; what++) {
                int asked = what;
                due("ballIn(" + turn + ", " + what + ")", ARGUMENT, x -> x.ballIn(turn, asked));
            }
            due("ballIn(" + turn + ", 3)", ARGUMENT, x -> x.ballIn(turn, 3));
        }
        for (int what : whats) {
            due("ballIn(0, " + what + ")", ARGUMENT, x -> x.ballIn(0, what));
            due("ballIn(99, " + what + ")", ARGUMENT, x -> x.ballIn(99, what));
        }
    }

    private static void echoIn() {
        dueOfTwo("echoIn", 3, 0, 1, CanyonBall::echoIn);
    }

    private static void wouldClash() {
        dueOfTwo("wouldClash", 3, 0, 1, CanyonBall::wouldClash);
    }

    private static void callIn() {
        int[] players = {-1, 4, MIN, MAX};
        for (int player : players) {
            due("callIn(" + player + ")", INDEX, x -> x.callIn(player));
        }
    }
}
