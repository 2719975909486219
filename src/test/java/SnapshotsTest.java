/** 'Snapshots, undo' of the document, and the edges of promises 11 to 13: keep, goBack, undo. */
public final class SnapshotsTest {
    private static final Class<IllegalStateException> STATE = IllegalStateException.class;
    private static final int NONE = CanyonBall.NONE;

    private SnapshotsTest() {
    }

    public static void main(String[] args) {
        busyIsBusy();
        twoSlots();
        slotsAreEmptyAtFirst();
        keepReturnsTheClock();
        keepInPlaceOfAnother();
        keepIsNotUndoable();
        snapshotIsAllBut();
        snapshotStays();
        snapshotOfTheSame();
        goBackIsUndoable();
        undoableSaveOneState();
        undoableIfNothingChanges();
        undoableIfRefused();
        theOthersSaveNothing();
        undoRestoresWhatIsCounted();
        undoKeepsBufferAndSlots();
        undoIsNotUndoable();
        atMostSix();
        oldestIsDroppedFirst();
        undoReturnsHowManyAreLeft();
        Check.end();
    }

    /** What the other tests take for granted of Scenes.busy(). */
    private static void busyIsBusy() {
        CanyonBall x = Scenes.busy();
        for (int what = 4; what <= 10; what++) {
            Check.due("count(" + what + ") is above 0", x.count(what) > 0 ? 1 : 0, 1);
        }
        Check.due("24 under way", x.count(4), 24);
        Check.due("saved states", x.count(11), 6);
        Check.due("6 characters", x.firstError(), 6);
        Check.due("slot 1", x.goBack(1), 17);
        Check.due("slot 0", x.goBack(0), 8);
    }

    /** There are two slots. */
    private static void twoSlots() {
        CanyonBall x = new CanyonBall();
        x.keep(0);
        x.pass(5);
        x.keep(1);
        x.pass(5);
        Check.due("slot 0", x.goBack(0), 0);
        Check.due("slot 1", x.goBack(1), 5);
        Check.due("slot 0 again", x.goBack(0), 0);
        Check.dueThrow(x, "slot -1", IllegalArgumentException.class, () -> x.goBack(-1));
        Check.dueThrow(x, "slot 2", IllegalArgumentException.class, () -> x.goBack(2));
    }

    /** goBack throws IllegalStateException if there is no snapshot in it. */
    private static void slotsAreEmptyAtFirst() {
        for (int i = 0; i < 2; i++) {
            int slot = i;
            CanyonBall x = new CanyonBall();
            Check.dueThrow(x, "slot " + slot + " at first", STATE, () -> x.goBack(slot));
            x.keep(1 - slot);
            Check.dueThrow(x, "slot " + slot + ", with the other one kept", STATE, () -> x.goBack(slot));
            x.keep(slot);
            Check.due("slot " + slot + ", kept", x.goBack(slot), 0);
        }
    }

    /** keep returns the clock, goBack the clock then. */
    private static void keepReturnsTheClock() {
        CanyonBall x = new CanyonBall();
        Check.due("keep at 0", x.keep(0), 0);
        x.pass(99);
        Check.due("keep at 99", x.keep(1), 99);
        x.pass(1);
        Check.due("goBack to 99", x.goBack(1), 99);
        Check.due("goBack to 0", x.goBack(0), 0);
        Check.due("clock", x.count(0), 0);
    }

    /** Takes a snapshot, in place of the one in the slot. */
    private static void keepInPlaceOfAnother() {
        CanyonBall x = Scenes.busy();
        x.pass(1);
        int[] now = Check.told(x);
        Check.due("keep(0) once more", x.keep(0), 18);
        x.pass(1);
        Check.due("the new one", x.goBack(0), 18);
        Check.dueTold("the new one", x, now);
        Check.due("the other slot is as before", x.goBack(1), 17);
    }

    /** keep isn't undoable: it saves no state, and undo leaves the slot. */
    private static void keepIsNotUndoable() {
        CanyonBall x = new CanyonBall();
        x.pass(3);
        x.keep(0);
        Check.due("one saved state", x.count(11), 1);
        Check.due("undo of pass", x.undo(), 0);
        Check.due("the slot is kept", x.goBack(0), 3);
    }

    private static void changeAll(CanyonBall x) {
        x.pass(40);
        x.set(0, 33);
        x.set(1, 8);
        x.set(2, 1);
        for (int player = 0; player < 4; player++) {
            x.call(player, 9 - player);
            x.walk(player, 7);
        }
        x.throwBall(31, 9, true);
        x.walk(0, -9);
        x.walk(0, -9);
        x.pass(11);
    }

    /** A snapshot is all but the buffer, the slots and the saved states. */
    private static void snapshotIsAllBut() {
        Check.Scene[] scenes = {Scenes::fresh, Scenes::busy, Scenes::fullBuffer};
        for (Check.Scene scene : scenes) {
            CanyonBall x = scene.made();
            int[] before = Check.told(x);
            int clock = x.count(0);
            x.keep(0);
            changeAll(x);
            x.keep(1);
            int[] later = Check.told(x);
            x.clearBuffer();
            x.append('~');
            Check.due("the saved states are six", x.count(11), 6);
            Check.due("goBack(0)", x.goBack(0), clock);
            Check.dueTold("goBack(0)", x, before);
            Check.due("the saved states stay", x.count(11), 6);
            Check.due("the buffer stays", x.append('~'), 2);
            Check.due("the other slot stays", x.goBack(1), clock + 51);
            Check.dueTold("goBack(1)", x, later);
            x.undo();
            x.undo();
            Check.dueTold("the saved states are those of the calls", x, later);
        }
    }

    /** Goes back to a snapshot, which stays. */
    private static void snapshotStays() {
        CanyonBall x = Scenes.busy();
        int[] before = Check.told(x);
        x.keep(1);
        for (int i = 0; i < 3; i++) {
            changeAll(x);
            x.goBack(1);
            Check.dueTold("time " + i, x, before);
        }
        x.undo();
        changeAll(x);
        x.goBack(1);
        Check.dueTold("after undo of goBack", x, before);
    }

    /** The same: what comes after keep and goBack doesn't reach the snapshot, and a slot doesn't reach the other. */
    private static void snapshotOfTheSame() {
        CanyonBall x = Scenes.busy();
        int[] before = Check.told(x);
        x.keep(0);
        x.goBack(0);
        x.keep(1);
        changeAll(x);
        int[] later = Check.told(x);
        x.keep(1);
        x.goBack(0);
        Check.dueTold("slot 0", x, before);
        x.goBack(1);
        Check.dueTold("slot 1", x, later);
    }

    /** goBack is undoable. */
    private static void goBackIsUndoable() {
        CanyonBall x = Scenes.fullBuffer();
        x.keep(0);
        x.pass(9);
        int[] later = Check.told(x);
        int saved = x.count(11);
        x.goBack(0);
        Check.due("one more is saved", x.count(11), saved + 1);
        Check.due("undo", x.undo(), saved);
        Check.dueTold("undo of goBack", x, later);
        Check.due("undo of pass", x.undo(), saved - 1);
        Check.due("the clock ahead of it", x.count(0), 0);
    }

    /** The deed must save one state, the one from before it, so that undo makes all as it was. */
    private static void dueUndoable(String what, Check.Scene scene, long answer, Check.Deed deed) {
        CanyonBall x = scene.made();
        int saved = x.count(11);
        long before = x.digest();
        Check.due(what, deed.on(x), answer);
        Check.due(what + " saves one state", x.count(11), saved + 1);
        Check.due("undo of " + what, x.undo(), saved);
        Check.due("all as before " + what, x.digest(), before);
        Check.dueWhole("the saved states and slots as before " + what, x, scene.made());
    }

    private static CanyonBall withASlot() {
        CanyonBall x = Scenes.aheadOfAnEcho(3);
        x.keep(0);
        return x;
    }

    /** Each method that is marked "undoable" and does not throw an exception saves the state from before it. */
    private static void undoableSaveOneState() {
        Check.Scene scene = SnapshotsTest::withASlot;
        dueUndoable("call", scene, 4, x -> x.call(0, 1));
        dueUndoable("walk", scene, 5, x -> x.walk(0, 3));
        dueUndoable("throwBall", scene, 8, x -> x.throwBall(3, 3, true));
        dueUndoable("set 0", scene, 12, x -> x.set(0, 40));
        dueUndoable("set 1", scene, 3, x -> x.set(1, 9));
        dueUndoable("set 2", scene, 2, x -> x.set(2, 5));
        dueUndoable("pass", scene, 0, x -> x.pass(50));
        dueUndoable("run", scene, 2, x -> Check.runText(x, "c0=1;t9"));
        Check.Scene later = () -> {
            CanyonBall x = withASlot();
            x.pass(9);
            return x;
        };
        dueUndoable("goBack", later, 4, x -> x.goBack(0));
    }

    /** Also if it changes nothing. */
    private static void undoableIfNothingChanges() {
        Check.Scene scene = SnapshotsTest::withASlot;
        dueUndoable("walk by 0", scene, 8, x -> x.walk(3, 0));
        dueUndoable("the ball as it is", scene, 8, x -> x.throwBall(8, 1, false));
        dueUndoable("setting 0 as it is", scene, 12, x -> x.set(0, 12));
        dueUndoable("setting 1 as it is", scene, 3, x -> x.set(1, 3));
        dueUndoable("setting 2 as it is", scene, 2, x -> x.set(2, 2));
        dueUndoable("back to what is now", scene, 4, x -> x.goBack(0));
        dueUndoable("there and back", scene, 2, x -> Check.runText(x, "m0+1;m0-1"));
    }

    /** Or is refused. */
    private static void undoableIfRefused() {
        Check.Scene scene = () -> {
            CanyonBall x = new CanyonBall();
            Check.runText(x, "c1=1;c1=2;c1=3");
            return x;
        };
        dueUndoable("a refused call", scene, NONE, x -> x.call(1, 4));
        dueUndoable("a walk beyond the left wall", scene, NONE, x -> x.walk(0, -3));
        dueUndoable("a walk beyond the right wall", scene, NONE, x -> x.walk(3, 5));
        dueUndoable("a run whose first order is refused", scene, 0, x -> Check.runText(x, "c1=4"));
    }

    /** The methods that are not marked save no state. */
    private static void theOthersSaveNothing() {
        CanyonBall x = Scenes.aheadOfAnEcho(3);
        x.append('t');
        Check.due("append", x.count(11), 3);
        x.firstError();
        Check.due("firstError", x.count(11), 3);
        x.clearBuffer();
        Check.due("clearBuffer", x.count(11), 3);
        x.keep(0);
        Check.due("keep", x.count(11), 3);
        x.undo();
        Check.due("undo", x.count(11), 2);
        Check.due("clock", x.count(0), 0);
    }

    /** All, also what is counted so far. */
    private static void undoRestoresWhatIsCounted() {
        CanyonBall x = Scenes.busy();
        int[] before = Check.told(x);
        Check.due("a refused walk", x.walk(0, -9), NONE);
        Check.due("a refused call", x.call(0, 1), NONE);
        x.pass(30);
        Check.due("all 24 have come back", x.count(4), 0);
        x.undo();
        x.undo();
        x.undo();
        Check.dueTold("undone", x, before);
    }

    /** But the buffer, the slots and the saved states. */
    private static void undoKeepsBufferAndSlots() {
        CanyonBall x = new CanyonBall();
        x.pass(1);
        Check.write(x, "t5");
        x.keep(0);
        x.pass(1);
        x.keep(1);
        x.append('0');
        Check.due("undo", x.undo(), 1);
        Check.due("undo", x.undo(), 0);
        Check.due("the buffer stays", x.firstError(), 3);
        Check.due("slot 0 stays", x.goBack(0), 1);
        Check.due("slot 1 stays", x.goBack(1), 2);
        Check.due("goBack is saved on top", x.undo(), 1);
        Check.due("clock", x.count(0), 1);
    }

    /** undo drops the state: the next undo goes further back, and none goes forth. */
    private static void undoIsNotUndoable() {
        CanyonBall x = new CanyonBall();
        x.pass(1);
        x.pass(2);
        x.pass(4);
        Check.due("undo", x.undo(), 2);
        Check.due("clock", x.count(0), 3);
        x.pass(8);
        Check.due("undo of the new one", x.undo(), 2);
        Check.due("clock", x.count(0), 3);
        Check.due("undo", x.undo(), 1);
        Check.due("clock", x.count(0), 1);
        Check.due("undo", x.undo(), 0);
        Check.due("clock", x.count(0), 0);
        Check.dueThrow(x, "none is left", STATE, () -> x.undo());
    }

    /** At most 6 states are saved. */
    private static void atMostSix() {
        CanyonBall x = new CanyonBall();
        int[] want = {1, 2, 3, 4, 5, 6, 6, 6, 6};
        for (int i = 0; i < want.length; i++) {
            x.walk(0, i % 2 == 0 ? 1 : -1);
            Check.due("saved after " + (i + 1) + " calls", x.count(11), want[i]);
        }
        x.undo();
        Check.due("one is dropped", x.count(11), 5);
        x.pass(1);
        x.pass(1);
        Check.due("full again", x.count(11), 6);
    }

    /** The oldest one is dropped first: after one deed of each kind, six can be undone, and the state is the eldest's. */
    private static void oldestIsDroppedFirst() {
        CanyonBall x = withASlot();
        Check.Deed[] deeds = {y -> y.call(0, 1), y -> y.walk(1, 2), y -> y.throwBall(1, 2, true), y -> y.set(1, 7),
            y -> y.pass(6), y -> Check.runText(y, "c2=2;t2;m3+9"), y -> y.goBack(0), y -> y.walk(0, -9), y -> y.pass(1)};
        int[][] before = new int[deeds.length][];
        for (int i = 0; i < deeds.length; i++) {
            before[i] = Check.told(x);
            deeds[i].on(x);
        }
        for (int i = 0; i < 6; i++) {
            Check.due("undo " + i, x.undo(), 5 - i);
            Check.dueTold("undo " + i, x, before[deeds.length - 1 - i]);
        }
        Check.dueThrow(x, "a seventh undo", STATE, () -> x.undo());
        Check.dueTold("the eldest that was saved", x, before[3]);
    }

    /** undo returns how many saved states are left. */
    private static void undoReturnsHowManyAreLeft() {
        CanyonBall one = new CanyonBall();
        one.pass(1);
        Check.due("of one", one.undo(), 0);
        CanyonBall six = Scenes.busy();
        for (int left = 5; left >= 0; left--) {
            Check.due("left", six.undo(), left);
            Check.due("count(11)", six.count(11), left);
        }
        Check.dueThrow(six, "of none", STATE, () -> six.undo());
    }
}
