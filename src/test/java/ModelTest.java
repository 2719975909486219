import java.util.Random;

/** Runs of 512 drawn calls each, on CanyonBall and on Model: every answer, every exception and every digest must be the same. */
public final class ModelTest {
    private static final int RUNS = 400;
    private static final int CALLS = 512;

    private final Random random;
    private final CanyonBall canyon = new CanyonBall();
    private final Model model = new Model();
    // Inputs out of range come more often in some runs, or else they would drown the others.
    private final int wrongInputsOf100;

    private ModelTest(int seed) {
        random = new Random(seed);
        wrongInputsOf100 = seed % 4 == 0 ? 15 : 1;
    }

    public static void main(String[] args) {
        for (int seed = 1; seed <= RUNS; seed++) {
            ModelTest test = new ModelTest(seed);
            for (int i = 0; i < CALLS; i++) {
                test.compareOne("run " + seed + ", call " + i + ": ");
            }
        }
        Check.end();
    }

    private static final long THREW_INDEX = Long.MIN_VALUE;
    private static final long THREW_ARGUMENT = Long.MIN_VALUE + 1;
    private static final long THREW_STATE = Long.MIN_VALUE + 2;
    private static final long THREW_OTHER = Long.MIN_VALUE + 3;

    private static long answerOf(Check.Call call) {
        try {
            return call.answer();
        } catch (RuntimeException e) {
            if (e.getClass() == IndexOutOfBoundsException.class) {
                return THREW_INDEX;
            }
            if (e.getClass() == IllegalArgumentException.class) {
                return THREW_ARGUMENT;
            }
            return e.getClass() == IllegalStateException.class ? THREW_STATE : THREW_OTHER;
        }
    }

    private void same(String what, Check.Call got, Check.Call want) {
        Check.due(what, answerOf(got), answerOf(want));
    }

    /** A number from least to most, or now and then one beyond them. */
    private int draw(int least, int most) {
        if (random.nextInt(100) < wrongInputsOf100) {
            int[] beyond = {least - 1, most + 1, Integer.MIN_VALUE, Integer.MAX_VALUE};
            return beyond[random.nextInt(4)];
        }
        return least + random.nextInt(most - least + 1);
    }

    private void compareOne(String at) {
        int kind = random.nextInt(30);
        if (kind < 7) {
            compareCall(at);
        } else if (kind < 14) {
            comparePass(at);
        } else if (kind < 18) {
            int player = draw(0, 3);
            int by = random.nextInt(3) > 0 ? random.nextInt(5) - 2 : draw(-9, 9);
            same(at + "walk(" + player + ", " + by + ")", () -> canyon.walk(player, by), () -> model.walk(player, by));
        } else if (kind < 21) {
            compareSettings(at);
        } else if (kind < 24) {
            compareText(at);
        } else if (kind < 26) {
            compareStates(at);
        } else {
            compareLooks(at);
        }
        same(at + "digest", () -> canyon.digest(), () -> model.digest());
    }

    private void compareCall(String at) {
        int player = draw(0, 3);
        int word = draw(0, 9);
        same(at + "call(" + player + ", " + word + ")", () -> canyon.call(player, word), () -> model.call(player, word));
    }

    /** Often until the ball would meet an echo, so that it is caught often enough. */
    private void comparePass(String at) {
        int player = random.nextInt(4);
        int wait = model.callIn(player);
        if (wait >= 0 && random.nextBoolean()) {
            if (wait > 0) {
                same(at + "pass(" + wait + ")", () -> canyon.pass(wait), () -> model.pass(wait));
            }
            int word = random.nextInt(10);
            same(at + "call(" + player + ", " + word + ")", () -> canyon.call(player, word), () -> model.call(player, word));
            return;
        }
        int turns = random.nextInt(8) > 0 ? 1 + random.nextInt(9) : draw(1, 99);
        same(at + "pass(" + turns + ")", () -> canyon.pass(turns), () -> model.pass(turns));
    }

    private void compareSettings(String at) {
        if (random.nextBoolean()) {
            int place = draw(0, model.setting(0));
            int speed = draw(1, 9);
            boolean right = random.nextBoolean();
            same(at + "throwBall(" + place + ", " + speed + ", " + right + ")",
                () -> canyon.throwBall(place, speed, right), () -> model.throwBall(place, speed, right));
            return;
        }
        int setting = draw(0, 2);
        int value = draw(setting == 0 ? 8 : setting == 1 ? 1 : 0, setting == 0 ? 40 : setting == 1 ? 9 : 5);
        same(at + "set(" + setting + ", " + value + ")", () -> canyon.set(setting, value), () -> model.set(setting, value));
    }

    private String order() {
        switch (random.nextInt(3)) {
            case 0:
                return "c" + random.nextInt(4) + "=" + random.nextInt(10);
            case 1:
                return "m" + random.nextInt(4) + (random.nextBoolean() ? "+" : "-") + (1 + random.nextInt(4));
            default:
                return "t" + (1 + random.nextInt(random.nextInt(5) > 0 ? 9 : 99));
        }
    }

    private void compareText(String at) {
        StringBuilder text = new StringBuilder(order());
        for (int i = random.nextInt(6); i > 0; i--) {
            text.append(';').append(order());
        }
        if (random.nextInt(3) == 0) {
            String signs = "cmt=+-;0123456789x";
            text.setCharAt(random.nextInt(text.length()), signs.charAt(random.nextInt(signs.length())));
        }
        if (random.nextInt(4) == 0) {
            text.setLength(random.nextInt(text.length()));
        }
        for (int i = 0; i < text.length(); i++) {
            int code = random.nextInt(400) == 0 ? draw(33, 126) : text.charAt(i);
            same(at + "append(" + code + ")", () -> canyon.append(code), () -> model.append(code));
        }
        same(at + "firstError", () -> canyon.firstError(), () -> model.firstError());
        same(at + "run of " + text, () -> canyon.run(), () -> model.run());
        if (random.nextInt(3) > 0) {
            same(at + "clearBuffer", () -> canyon.clearBuffer(), () -> model.clearBuffer());
        }
    }

    private void compareStates(String at) {
        int slot = draw(0, 1);
        switch (random.nextInt(4)) {
            case 0:
                same(at + "keep(" + slot + ")", () -> canyon.keep(slot), () -> model.keep(slot));
                break;
            case 1:
                same(at + "goBack(" + slot + ")", () -> canyon.goBack(slot), () -> model.goBack(slot));
                break;
            default:
                for (int i = random.nextInt(4); i >= 0; i--) {
                    same(at + "undo", () -> canyon.undo(), () -> model.undo());
                }
                break;
        }
    }

    private void compareLooks(String at) {
        int player = draw(0, 3);
        int wall = draw(0, 1);
        int turns = draw(0, 99);
        int what = draw(0, 2);
        int property = draw(0, 6);
        int number = draw(0, 11);
        int rank = draw(0, 24);
        int ofEcho = draw(0, 5);
        same(at + "playerOf", () -> canyon.playerOf(player, property), () -> model.playerOf(player, property));
        same(at + "echoOf", () -> canyon.echoOf(rank, ofEcho), () -> model.echoOf(rank, ofEcho));
        same(at + "count", () -> canyon.count(number), () -> model.count(number));
        same(at + "setting", () -> canyon.setting(what), () -> model.setting(what));
        same(at + "ballIn(" + turns + ", " + what + ")", () -> canyon.ballIn(turns, what), () -> model.ballIn(turns, what));
        same(at + "echoIn", () -> canyon.echoIn(player, wall), () -> model.echoIn(player, wall));
        same(at + "wouldClash", () -> canyon.wouldClash(player, wall), () -> model.wouldClash(player, wall));
        same(at + "callIn", () -> canyon.callIn(player), () -> model.callIn(player));
        same(at + "quietIn", () -> canyon.quietIn(), () -> model.quietIn());
        same(at + "best", () -> canyon.best(), () -> model.best());
        same(at + "answeredShare", () -> Double.doubleToLongBits(canyon.answeredShare()),
            () -> Double.doubleToLongBits(model.answeredShare()));
    }
}
