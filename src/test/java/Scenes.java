/** Objects to begin a test with: each method makes one that is always the same. */
final class Scenes {
    private Scenes() {
    }

    static CanyonBall fresh() {
        return new CanyonBall();
    }

    /** A canyon with the settings 0 to 2 as told. */
    static CanyonBall canyon(int last, int sound, int more) {
        CanyonBall x = new CanyonBall();
        x.set(0, last);
        x.set(1, sound);
        x.set(2, more);
        return x;
    }

    /** Six saved states, both slots kept, 24 echoes under way, all that is counted above 0, and half an order. */
    static CanyonBall busy() {
        CanyonBall x = new CanyonBall();
        x.call(3, 4);
        x.pass(8);
        x.keep(0);
        x.call(2, 0);
        x.call(0, 1);
        x.walk(0, 2);
        x.walk(0, -9);
        x.pass(9);
        x.set(2, 5);
        x.keep(1);
        x.throwBall(5, 4, false);
        for (int i = 0; i < 12; i++) {
            x.call(i % 4, i % 10);
        }
        Check.write(x, "c0=1;m");
        return x;
    }

    /** A buffer with 60 characters, which tell turns as a text, and four saved states. */
    static CanyonBall fullBuffer() {
        CanyonBall x = canyon(20, 2, 0);
        x.call(1, 7);
        Check.write(x, "t1;t1;t1;t1;t1;t1;t1;t1;t1;t1;t1;t1;t1;t1;t1;t1;t1;c0=1;m0+1");
        return x;
    }

    /** The player 3 at 8, whose echo of the right wall is due in 1 turn, and that of the left wall in 4. */
    static CanyonBall aheadOfAnEcho(int word) {
        CanyonBall x = new CanyonBall();
        x.throwBall(12, 1, false);
        x.call(3, word);
        x.pass(4);
        return x;
    }

    /** All four players at one place. */
    static CanyonBall allAt(int place) {
        CanyonBall x = new CanyonBall();
        for (int player = 0; player < 4; player++) {
            Check.walkTo(x, player, place);
        }
        return x;
    }
}
