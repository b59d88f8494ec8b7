/** Promises 20 to 23, and what Terms says of undo. */
public final class UndoTest {
    private static final Checks CHECKS = new Checks("UndoTest");

    public static void main(String[] args) {
        everyChange();
        eightAtMost();
        whatDoesNotCount();
        whatIsNotRestored();
        undoneScript();
        snapshot();
        snapshotAndUndo();
        CHECKS.finish();
    }

    /** Each change of a row is undone again, back to the first state. */
    private static void everyChange() {
        BalloonPost post = new BalloonPost();
        Runnable[] changes = {
            () -> post.setRoof(0, 5), () -> post.setTree(9, 4), () -> post.addGust(3), () -> post.setLeak(1), () -> post.addBalloon(4, 5, 6),
            () -> post.addParcel(1, 4, 5, 50), () -> post.tie(3, 2), () -> post.untie(2), () -> post.launch(1), () -> post.moor(0),
            () -> post.fill(2, 3), () -> post.addGas(9), () -> post.claim(7, 13), () -> post.passHours(9),
            () -> Checks.run(post, "street 8;gas 1;"),
        };
        for (int i = 0; i < changes.length; i++) {
            String before = Checks.stateOf(post);
            changes[i].run();
            CHECKS.same("change " + i + " changes nothing", Checks.stateOf(post).equals(before) ? 1 : 0, 0);
            CHECKS.same("change " + i + ": undoCount", post.undoCount(), 1);
            CHECKS.same("change " + i + ": undo", post.undo(), 0);
            CHECKS.sameText("change " + i + ": state", Checks.stateOf(post), before);
            CHECKS.same("change " + i + ": nothing more to undo", post.undo(), -1);
        }
        CHECKS.same("the leak is undone", post.setLeak(3), 3);
        BalloonPost caught = Checks.after("street 8;tree 1 9;gust east 1;balloon 0 9 9;parcel 8 0 3 0;tie 0 0;launch 0;hours 1;");
        String before = Checks.stateOf(caught);
        CHECKS.same("free", caught.free(0), 1);
        caught.undo();
        CHECKS.sameText("free undone", Checks.stateOf(caught), before);
        CHECKS.same("free again", caught.free(0), 1);
    }

    private static void eightAtMost() {
        BalloonPost post = new BalloonPost();
        String[] states = new String[12];
        for (int i = 0; i < states.length; i++) {
            states[i] = Checks.stateOf(post);
            post.addGas(i + 1);
            CHECKS.same("undoCount", post.undoCount(), Math.min(8, i + 1));
        }
        for (int left = 7; left >= 0; left--) {
            CHECKS.same("undo", post.undo(), left);
            CHECKS.sameText("state", Checks.stateOf(post), states[4 + left]);
        }
        CHECKS.same("the ninth cannot be undone", post.undo(), -1);
        CHECKS.sameText("nothing changes", Checks.stateOf(post), states[4]);
        CHECKS.same("undoCount", post.undoCount(), 0);
        post.addGas(1);
        CHECKS.same("a new change can be undone", post.undo(), 0);
        CHECKS.sameText("state", Checks.stateOf(post), states[4]);
        for (int i = 0; i < 3; i++) {
            post.passHours(1);
        }
        CHECKS.same("undo one of three", post.undo(), 2);
        post.passHours(5);
        CHECKS.same("undoCount", post.undoCount(), 3);
        post.undo();
        post.undo();
        CHECKS.same("undo is not undone", post.undo(), 0);
        CHECKS.sameText("state", Checks.stateOf(post), states[4]);
    }

    private static void whatDoesNotCount() {
        BalloonPost post = new BalloonPost();
        post.setRoof(0, 0);
        CHECKS.same("a change to the same height counts", post.undoCount(), 1);
        CHECKS.throwsArgument("addGas 0", () -> post.addGas(0));
        CHECKS.throwsState("launch 0", () -> post.launch(0));
        CHECKS.throwsNoSuch("claim", () -> post.claim(0, 0));
        Checks.run(post, "street 8;oops;");
        post.append(0, 0, 0, 0, 0);
        post.truncateInput(3);
        post.saveSnapshot();
        post.writeStreet();
        post.placeAfter(0, 48);
        post.hoursToSink(0);
        CHECKS.same("undoCount", post.undoCount(), 1);
    }

    private static void whatIsNotRestored() {
        BalloonPost post = new BalloonPost();
        post.append(0, 0, 0, 0, 0);
        post.passHours(8);
        post.writeStreet();
        post.truncateInput(7);
        post.saveSnapshot();
        post.undo();
        CHECKS.same("the input buffer stays", post.truncateInput(7), 7);
        CHECKS.throwsArgument("the input buffer does not come back", () -> post.truncateInput(20));
        CHECKS.same("the report stays: balloon 0 at 3", post.reportByte(3), '0');
        CHECKS.same("the snapshot stays", post.restoreSnapshot(), 9);
    }

    private static void undoneScript() {
        BalloonPost post = new BalloonPost();
        post.passHours(3);
        String before = Checks.stateOf(post);
        Checks.run(post, "street 30;repeat 5(gas 1;);");
        CHECKS.same("a script is one change", post.undoCount(), 2);
        String after = Checks.stateOf(post);
        Checks.run(post, "street 9;");
        post.undo();
        CHECKS.sameText("back to the first script", Checks.stateOf(post), after);
        CHECKS.same("undo", post.undo(), 1);
        CHECKS.sameText("back to the state before it", Checks.stateOf(post), before);
        CHECKS.same("undo of what came before the script", post.undo(), 0);
        CHECKS.same("hour", post.hour(), 1);
    }

    private static void snapshot() {
        BalloonPost post = new BalloonPost();
        CHECKS.throwsNoSuch("none yet", post::restoreSnapshot);
        post.passHours(4);
        CHECKS.same("saveSnapshot", post.saveSnapshot(), 5);
        CHECKS.same("saving is not a change", post.undoCount(), 1);
        String saved = Checks.stateOf(post);
        post.passHours(5);
        Checks.run(post, "street 20;");
        CHECKS.same("restoreSnapshot", post.restoreSnapshot(), 5);
        CHECKS.sameText("state", Checks.stateOf(post), saved);
        CHECKS.same("nothing can be undone", post.undoCount(), 0);
        CHECKS.same("nothing can be undone", post.undo(), -1);
        post.passHours(1);
        CHECKS.same("it stays saved", post.restoreSnapshot(), 5);
        CHECKS.sameText("state", Checks.stateOf(post), saved);
        post.passHours(2);
        CHECKS.same("a new one", post.saveSnapshot(), 7);
        post.passHours(2);
        CHECKS.same("takes the place of the earlier one", post.restoreSnapshot(), 7);
    }

    private static void snapshotAndUndo() {
        BalloonPost post = new BalloonPost();
        post.addGas(1);
        CHECKS.same("saveSnapshot", post.saveSnapshot(), 1);
        post.addGas(2);
        CHECKS.same("undo goes on behind a snapshot", post.undo(), 1);
        CHECKS.same("undo goes on behind a snapshot", post.undo(), 0);
        CHECKS.same("gas", post.gas(), 50);
        post.restoreSnapshot();
        CHECKS.same("gas", post.gas(), 51);
        CHECKS.throwsNoSuch("a failed script saves none", () -> {
            BalloonPost other = new BalloonPost();
            Checks.run(other, "street;");
            return other.restoreSnapshot();
        });
    }
}
