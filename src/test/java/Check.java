import java.util.ArrayList;
import java.util.List;

/** What the tests of the project share: it counts wrong answers, prints them, and ends with exit code 1 if there were any. */
final class Check {
    interface Call {
        long answer();
    }

    /** Makes an object that is always the same. */
    interface Scene {
        CanyonBall made();
    }

    interface Deed {
        long on(CanyonBall canyon);
    }

    private static int wrong = 0;
    private static int asked = 0;

    private Check() {
    }

    static void due(String what, long got, long want) {
        asked++;
        if (got != want) {
            wrong++;
            System.out.println(what + " answered " + got + ", due is " + want);
        }
    }

    static void dueShare(String what, double got, double want) {
        asked++;
        if (Double.doubleToLongBits(got) != Double.doubleToLongBits(want)) {
            wrong++;
            System.out.println(what + " answered " + got + ", due is " + want);
        }
    }

    /** The call must throw just this exception, and change nothing. */
    static void dueThrow(CanyonBall canyon, String what, Class<? extends RuntimeException> type, Call call) {
        asked++;
        long before = canyon.digest();
        Class<?> got = null;
        try {
            call.answer();
        } catch (RuntimeException e) {
            got = e.getClass();
        }
        if (got != type) {
            wrong++;
            System.out.println(what + " threw " + got + ", due is " + type);
        }
        due(what + " leaves the digest", canyon.digest(), before);
    }

    /** The call must change nothing. */
    static void dueLook(CanyonBall canyon, String what, long want, Call call) {
        long before = canyon.digest();
        due(what, call.answer(), want);
        due(what + " leaves the digest", canyon.digest(), before);
    }

    /**
     * The call must throw just this exception, and leave all as it is on an object of the same making: what the
     * digest tells, and what lies in the slots and in the saved states, which it doesn't tell.
     */
    static void dueRefusal(String what, Scene scene, Class<? extends RuntimeException> type, Deed deed) {
        CanyonBall canyon = scene.made();
        dueThrow(canyon, what, type, () -> deed.on(canyon));
        dueWhole(what + " leaves all", canyon, scene.made());
    }

    /** Both must be the same in all that can be told of them; they are used up by it. */
    static void dueWhole(String what, CanyonBall got, CanyonBall want) {
        due(what, whole(got).equals(whole(want)) ? 1 : 0, 1);
    }

    private static List<Long> whole(CanyonBall canyon) {
        List<Long> all = new ArrayList<>();
        all.add(canyon.digest());
        for (int left = canyon.count(11); left > 0; left--) {
            canyon.undo();
            all.add(canyon.digest());
        }
        for (int slot = 0; slot < 2; slot++) {
            try {
                canyon.goBack(slot);
            } catch (IllegalStateException e) {
                all.add(-1L);
            }
            all.add(canyon.digest());
        }
        return all;
    }

    /** All that a saved state or a snapshot holds, as the looks tell it. */
    static int[] told(CanyonBall canyon) {
        int[] all = new int[11 + 4 * 7 + 25 * 6 + 3];
        int at = 0;
        for (int what = 0; what < 11; what++) {
            all[at++] = canyon.count(what);
        }
        for (int i = 0; i < 4 * 7; i++) {
            all[at++] = canyon.playerOf(i / 7, i % 7);
        }
        for (int i = 0; i < 25 * 6; i++) {
            all[at++] = canyon.echoOf(i / 6, i % 6);
        }
        for (int i = 0; i < 3; i++) {
            all[at++] = canyon.setting(i);
        }
        return all;
    }

    static void dueTold(String what, CanyonBall canyon, int[] want) {
        int[] got = told(canyon);
        for (int i = 0; i < want.length; i++) {
            due(what + ", number " + i + " of all", got[i], want[i]);
        }
    }

    /** Five walks are enough for the widest canyon. */
    static void walkTo(CanyonBall canyon, int player, int place) {
        for (int i = 0; i < 5 && canyon.playerOf(player, 0) != place; i++) {
            int way = place - canyon.playerOf(player, 0);
            canyon.walk(player, Math.max(-9, Math.min(9, way)));
        }
        due("player " + player + " has walked", canyon.playerOf(player, 0), place);
    }

    static void write(CanyonBall canyon, String text) {
        for (int i = 0; i < text.length(); i++) {
            canyon.append(text.charAt(i));
        }
    }

    static int runText(CanyonBall canyon, String text) {
        canyon.clearBuffer();
        write(canyon, text);
        return canyon.run();
    }

    static void end() {
        System.out.println(asked + " answers, " + wrong + " wrong");
        if (asked == 0 || wrong > 0) {
            System.exit(1);
        }
    }
}
