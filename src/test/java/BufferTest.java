/** 'Input text' of the document, and the edges of promises 7 to 10: append, clearBuffer, firstError, run. */
public final class BufferTest {
    private static final Class<IllegalArgumentException> ARGUMENT = IllegalArgumentException.class;
    private static final Class<IllegalStateException> STATE = IllegalStateException.class;
    private static final int NONE = CanyonBall.NONE;
    private static final String DIGITS = "0123456789";
    private static final String PLAYERS = "0123";
    private static final String PLACES = "123456789";

    private BufferTest() {
    }

    public static void main(String[] args) {
        atMost60();
        codes33To126();
        clearBufferEmptyAndFull();
        noOrder();
        oneOrder();
        asManyOrdersAsThereIsRoomFor();
        eachCharacterBehindEachBeginning();
        ofAnyLength();
        fromLeftToRight();
        firstErrorOfNone();
        runAsCallDoes();
        runAsWalkDoes();
        runAsPassDoes();
        runOneAfterTheOther();
        runToTheFirstRefused();
        runOfARefusedCall();
        runThatIsRefusedAtOnce();
        runClearsTheBuffer();
        runIsUndoneAsOneCall();
        Check.end();
    }

    private static CanyonBall with(String text) {
        CanyonBall x = new CanyonBall();
        Check.write(x, text);
        return x;
    }

    /** The buffer has at most 60 characters. append returns the new length of the buffer. */
    private static void atMost60() {
        CanyonBall x = new CanyonBall();
        for (int i = 1; i <= 60; i++) {
            Check.due("append " + i, x.append(i + 40), i);
        }
        Check.dueThrow(x, "append 61", STATE, () -> x.append('!'));
        Check.due("60 characters are held", x.clearBuffer(), 60);
        for (int i = 1; i <= 60; i++) {
            Check.due("append " + i + " once more", x.append('t'), i);
        }
        Check.dueThrow(x, "append 61 once more", STATE, () -> x.append('t'));
    }

    /** code: the character code, 33 to 126. */
    private static void codes33To126() {
        CanyonBall x = new CanyonBall();
        String text = "";
        for (int code = 33; code <= 126; code++) {
            if (text.length() == 60) {
                text = "";
                Check.due("clearBuffer", x.clearBuffer(), 60);
            }
            text = text + (char) code;
            Check.due("append(" + code + ")", x.append(code), text.length());
            Check.due("the codes are kept", x.digest(), LooksTest.digestOf(x, text, false, false));
        }
        Check.dueThrow(x, "append(32)", ARGUMENT, () -> x.append(32));
        Check.dueThrow(x, "append(127)", ARGUMENT, () -> x.append(127));
    }

    /** clearBuffer returns the length that it had. */
    private static void clearBufferEmptyAndFull() {
        CanyonBall x = new CanyonBall();
        long fresh = x.digest();
        Check.due("of an empty buffer", x.clearBuffer(), 0);
        x.append('c');
        Check.due("of one character", x.clearBuffer(), 1);
        Check.due("of none again", x.clearBuffer(), 0);
        Check.due("all as at first", x.digest(), fresh);
        CanyonBall full = Scenes.fullBuffer();
        Check.due("of a full buffer", full.clearBuffer(), 60);
        Check.due("it is empty", full.firstError(), 0);
        Check.dueThrow(full, "nothing is left to run", ARGUMENT, () -> full.run());
    }

    /** Turns as a text are one or more orders: none is too few. */
    private static void noOrder() {
        CanyonBall x = new CanyonBall();
        Check.dueThrow(x, "run of no order", ARGUMENT, () -> x.run());
        Check.due("but it is no syntax error", x.firstError(), 0);
    }

    /** The same: one order, of each kind, with the smallest and the largest digits. */
    private static void oneOrder() {
        String[] orders = {"c0=0", "c3=9", "m0+1", "m0-1", "m1+8", "m3-8", "t1", "t9", "t10", "t99"};
        for (String order : orders) {
            CanyonBall x = with(order);
            Check.due("firstError of " + order, x.firstError(), order.length());
            Check.due("run of " + order, x.run(), 1);
        }
    }

    /** The same: with ";" between them. */
    private static void asManyOrdersAsThereIsRoomFor() {
        String nineteen = "t1;t1;t1;t1;t1;t1;t1;t1;t1;t1;t1;t1;t1;t1;t1;t1;t1;t1;t1;";
        CanyonBall x = with(nineteen + "t99");
        Check.due("60 characters without an error", x.firstError(), 60);
        Check.due("20 orders are done", x.run(), 20);
        Check.due("the clock of 20 orders", x.count(0), 19 + 99);
        CanyonBall y = with(nineteen + "t1;");
        Check.due("a \";\" at the end is no syntax error", y.firstError(), 60);
        Check.dueThrow(y, "but no turns as a text", ARGUMENT, () -> y.run());
        CanyonBall z = with("c0=1;c1=2;c2=3;c3=4;m0+1;m1-1;m2+1;m3-1;t5;m0-1;t5;c0=1;c1=2");
        Check.due("13 orders of each kind", z.run(), 13);
        Check.due("what they have sent", z.count(5), 12);
    }

    /** What may come behind the characters told; any other one is a syntax error. */
    private static final String[][] BEHIND = {
        {"", "cmt"}, {"c", PLAYERS}, {"c0", "="}, {"c3", "="}, {"c0=", DIGITS}, {"c3=", DIGITS}, {"c0=0", ";"},
        {"c3=9", ";"}, {"m", PLAYERS}, {"m0", "+-"}, {"m3", "+-"}, {"m0+", PLACES}, {"m3-", PLACES}, {"m0+1", ";"},
        {"m0-9", ";"}, {"t", PLACES}, {"t1", DIGITS + ";"}, {"t9", DIGITS + ";"}, {"t10", ";"}, {"t99", ";"},
    };

    /**
     * "c", the digit of a player, 0 to 3, "=", and a word, a digit; "m", the digit of a player, "+" or "-", and a number
     * of places, 1 to 9; or "t" and a number of turns, 1 to 99, without leading zeros.
     */
    private static void eachCharacterBehindEachBeginning() {
        String[] aheads = {"", "t1;", "c0=0;m0+1;", "t99;t10;"};
        for (String ahead : aheads) {
            for (String[] row : BEHIND) {
                String before = ahead + row[0];
                for (int code = 33; code <= 126; code++) {
                    CanyonBall x = with(before);
                    Check.due("no error in " + before, x.firstError(), before.length());
                    x.append(code);
                    int want = before.length() + (row[1].indexOf(code) >= 0 ? 1 : 0);
                    Check.due("firstError of " + before + (char) code, x.firstError(), want);
                }
            }
        }
    }

    /** Whole orders, each with a ";" behind it, of just this length, which is 6 or more. */
    private static String ordersOf(int length) {
        StringBuilder text = new StringBuilder();
        for (int left = length; left > 0; left -= left % 3 == 0 ? 3 : 4) {
            text.append(left % 3 == 0 ? "t1;" : "t10;");
        }
        return text.toString();
    }

    /**
     * A character is a syntax error if no turns as a text, of any length, begin with the characters before it and this
     * character: the 60th character can begin an order that has no room.
     */
    private static void ofAnyLength() {
        for (String[] row : BEHIND) {
            String before = ordersOf(59 - row[0].length()) + row[0];
            Check.due("59 characters", before.length(), 59);
            for (int code = 33; code <= 126; code++) {
                CanyonBall x = with(before);
                x.append(code);
                int want = row[1].indexOf(code) >= 0 ? 60 : 59;
                Check.due("firstError of " + before + (char) code, x.firstError(), want);
            }
        }
    }

    /** The buffer is read from left to right: of several errors the first one is told, whatever comes behind it. */
    private static void fromLeftToRight() {
        String[] texts = {"x", "xx", "xt1", ";c0=1", "c4=1", "c0=1c", "t0;t0", "t1;t0;t0", "c0=1;m0+0;t1", "t1;;t1",
            "m0*1;m0*1", "cc0=1", "t1,t1", "m3+9;c3=9;t999"};
        int[] errors = {0, 0, 0, 0, 1, 4, 1, 4, 8, 3, 2, 1, 2, 13};
        for (int i = 0; i < texts.length; i++) {
            CanyonBall x = with(texts[i]);
            Check.due("firstError of " + texts[i], x.firstError(), errors[i]);
            Check.dueThrow(x, "run of " + texts[i], ARGUMENT, () -> x.run());
            x.append(';');
            x.append('t');
            x.append('1');
            Check.due("whatever comes behind " + texts[i], x.firstError(), errors[i]);
        }
    }

    /** firstError returns the length of the buffer if there is none. */
    private static void firstErrorOfNone() {
        Check.due("of an empty buffer", new CanyonBall().firstError(), 0);
        Check.due("of one character", with("c").firstError(), 1);
        Check.due("of an error at 0", with("=").firstError(), 0);
        Check.due("of a full buffer", Scenes.fullBuffer().firstError(), 60);
        CanyonBall x = Scenes.busy();
        Check.due("of half an order", x.firstError(), 6);
        Check.dueWhole("it changes nothing", x, Scenes.busy());
    }

    private static void dueRunAs(String text, Check.Deed deed) {
        CanyonBall got = Scenes.aheadOfAnEcho(4);
        CanyonBall want = Scenes.aheadOfAnEcho(4);
        long answer = deed.on(want);
        Check.due("run of " + text, Check.runText(got, text), answer == NONE ? 0 : 1);
        Check.dueWhole("after " + text, got, want);
    }

    /** run does the orders in the buffer as call() does, */
    private static void runAsCallDoes() {
        for (int i = 0; i < 40; i++) {
            int player = i / 10;
            int word = i % 10;
            dueRunAs("c" + player + "=" + word, x -> x.call(player, word));
        }
    }

    /** as walk() does, */
    private static void runAsWalkDoes() {
        for (int i = 0; i < 36; i++) {
            int player = i / 9;
            int places = i % 9 + 1;
            dueRunAs("m" + player + "+" + places, x -> x.walk(player, places));
            dueRunAs("m" + player + "-" + places, x -> x.walk(player, -places));
        }
    }

    /** and as pass() does, from 1 turn to 99. */
    private static void runAsPassDoes() {
        for (int i = 1; i <= 99; i++) {
            int turns = i;
            dueRunAs("t" + turns, x -> {
                x.pass(turns);
                return turns;
            });
        }
    }

    /** One after the other. */
    private static void runOneAfterTheOther() {
        CanyonBall x = new CanyonBall();
        Check.due("a call from where the player has walked", Check.runText(x, "m0+1;c0=5;m0+1;t1;c0=6"), 5);
        Check.due("place of the first call", x.echoOf(0, 1), 3);
        Check.due("it is due in", x.echoOf(0, 3), 3);
        Check.due("its word", x.echoOf(0, 2), 5);
        Check.due("place of the second call", x.echoOf(1, 1), 4);
        Check.due("its word", x.echoOf(1, 2), 6);
    }

    /** Up to the first one that is refused (and counted so). */
    private static void runToTheFirstRefused() {
        String[] orders = {"m0+1", "m1+1", "t1", "c2=5"};
        for (int at = 0; at <= 4; at++) {
            for (int side = 0; side < 2; side++) {
                CanyonBall x = new CanyonBall();
                StringBuilder text = new StringBuilder();
                for (int i = 0; i < 4; i++) {
                    text.append(i == at ? side == 0 ? "m3-9;" : "m3+5;" : "").append(orders[i]).append(i < 3 ? ";" : "");
                }
                text.append(at == 4 ? ";m3+5" : "");
                Check.due("run of " + text, Check.runText(x, text.toString()), at);
                Check.due("refused", x.count(10), 1);
                Check.due("the first order is done", x.playerOf(0, 0), at > 0 ? 3 : 2);
                Check.due("the second order is done", x.playerOf(1, 0), at > 1 ? 5 : 4);
                Check.due("the third order is done", x.count(0), at > 2 ? 1 : 0);
                Check.due("the fourth order is done", x.count(5), at > 3 ? 2 : 0);
                Check.due("the refused one is not", x.playerOf(3, 0), 8);
            }
        }
    }

    /** The same with calls: the fourth one of a player would make 8 echoes. */
    private static void runOfARefusedCall() {
        CanyonBall x = new CanyonBall();
        Check.due("a fourth call", Check.runText(x, "c1=0;c1=1;c1=2;c1=3;t1;c0=1"), 3);
        Check.due("refused", x.count(10), 1);
        Check.due("nothing behind it is done", x.count(0), 0);
        Check.due("three are sent", x.count(5), 6);
        CanyonBall y = new CanyonBall();
        Check.due("three, and a fourth later", Check.runText(y, "c1=0;c1=1;c1=2;t5;t3;c1=3"), 6);
        Check.due("none is refused", y.count(10), 0);
    }

    /** Undoable, as one call, also if none is done. */
    private static void runThatIsRefusedAtOnce() {
        CanyonBall x = new CanyonBall();
        Check.due("none is done", Check.runText(x, "m3+5;t1"), 0);
        Check.due("one state is saved", x.count(11), 1);
        Check.due("refused", x.count(10), 1);
        Check.due("undo", x.undo(), 0);
        Check.due("refused no more", x.count(10), 0);
        CanyonBall busy = Scenes.busy();
        int[] before = Check.told(busy);
        Check.due("none is done", Check.runText(busy, "c0=1;t1"), 0);
        Check.due("six states are saved", busy.count(11), 6);
        Check.due("undo of six", busy.undo(), 5);
        Check.dueTold("undo of six", busy, before);
    }

    /** And clears the buffer: if all are done, if some are, and if none is. */
    private static void runClearsTheBuffer() {
        String[] texts = {"t1;t1", "t1;m3+9;t1", "m3+9;t1"};
        for (int i = 0; i < texts.length; i++) {
            CanyonBall x = with(texts[i]);
            Check.due("run of " + texts[i], x.run(), 2 - i);
            Check.due("the buffer is cleared", x.clearBuffer(), 0);
            Check.dueThrow(x, "there is nothing to run again", ARGUMENT, () -> x.run());
            Check.due("append begins anew", x.append('t'), 1);
        }
        CanyonBall full = Scenes.fullBuffer();
        Check.due("a full buffer is run", full.run(), 19);
        Check.due("and cleared", full.clearBuffer(), 0);
    }

    /** Undoable, as one call: the buffer is not restored. */
    private static void runIsUndoneAsOneCall() {
        CanyonBall x = Scenes.fullBuffer();
        int saved = x.count(11);
        int[] before = Check.told(x);
        x.run();
        Check.due("one more state is saved", x.count(11), saved + 1);
        Check.due("undo", x.undo(), saved);
        Check.dueTold("undo of 19 orders", x, before);
        Check.due("the buffer stays cleared", x.clearBuffer(), 0);
    }
}
