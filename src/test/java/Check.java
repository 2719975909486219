/** What the tests of the project share: it counts wrong answers, prints them, and ends with exit code 1 if there were any. */
final class Check {
    interface Call {
        long answer();
    }

    private static int wrong = 0;
    private static int asked = 0;

    private Check() {
    }

    static void due(String what, long got, long want) {
        asked++;
        if (got != want) {
            wrong++;
            System.out.println(what + " answered " + got + ", due is " + want);
        }
    }

    static void dueShare(String what, double got, double want) {
        asked++;
        if (Double.doubleToLongBits(got) != Double.doubleToLongBits(want)) {
            wrong++;
            System.out.println(what + " answered " + got + ", due is " + want);
        }
    }

    /** The call must throw just this exception, and change nothing. */
    static void dueThrow(CanyonBall canyon, String what, Class<? extends RuntimeException> type, Call call) {
        asked++;
        long before = canyon.digest();
        Class<?> got = null;
        try {
            call.answer();
        } catch (RuntimeException e) {
            got = e.getClass();
        }
        if (got != type) {
            wrong++;
            System.out.println(what + " threw " + got + ", due is " + type);
        }
        due(what + " leaves the digest", canyon.digest(), before);
    }

    /** The call must change nothing. */
    static void dueLook(CanyonBall canyon, String what, long want, Call call) {
        long before = canyon.digest();
        due(what, call.answer(), want);
        due(what + " leaves the digest", canyon.digest(), before);
    }

    static void write(CanyonBall canyon, String text) {
        for (int i = 0; i < text.length(); i++) {
            canyon.append(text.charAt(i));
        }
    }

    static int runText(CanyonBall canyon, String text) {
        canyon.clearBuffer();
        write(canyon, text);
        return canyon.run();
    }

    static void end() {
        System.out.println(asked + " answers, " + wrong + " wrong");
        if (asked == 0 || wrong > 0) {
            System.exit(1);
        }
    }
}
