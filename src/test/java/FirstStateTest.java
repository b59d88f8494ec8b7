/** Promise 1, and the constants. */
public final class FirstStateTest {
    private static final String SCRIPT = "street 12; roof 5 3; tree 8 2; roof 11 9; gust east 2; gust east 1; gust west 1; "
            + "balloon 0 10 5; balloon 3 6 4; balloon 7 4 2; parcel 4 0 8 10; parcel 3 0 5 11; parcel 5 3 9 12; "
            + "parcel 2 7 1 13; tie 0 0; tie 1 0; tie 2 1; launch 0; hours 1;";
    private static final Checks CHECKS = new Checks("FirstStateTest");

    public static void main(String[] args) {
        everyValue();
        likeTheScript();
        emptyRest();
        constants();
        CHECKS.finish();
    }

    private static void everyValue() {
        BalloonPost post = new BalloonPost();
        int[] roofs = {0, 0, 0, 0, 0, 3, 0, 0, 0, 0, 0, 9};
        int[] trees = {0, 0, 0, 0, 0, 0, 0, 0, 2, 0, 0, 0};
        int[] gusts = {2, 1, -1, 2, 1, -1};
        int[][] balloons = {{2, 10, 5, 7, 3, 1, 3}, {3, 6, 4, 5, 1, 0, 4}, {7, 4, 2, 0, 2, 0, 0}};
        int[][] parcels = {{4, 8, 1, 0, 2, 32}, {3, 5, 1, 0, 2, 15}, {5, 9, 1, 1, 3, 30}, {2, 1, 0, -1, 7, 12}};
        CHECKS.same("streetLength", post.streetLength(), 12);
        CHECKS.same("hour", post.hour(), 1);
        CHECKS.same("gas", post.gas(), 50);
        CHECKS.same("takings", post.takings(), 0);
        CHECKS.same("deliveredCount", post.deliveredCount(), 0);
        for (int place = 0; place < 12; place++) {
            CHECKS.same("roof " + place, post.roof(place), roofs[place]);
            CHECKS.same("tree " + place, post.tree(place), trees[place]);
            CHECKS.same("parcelsAt " + place, post.parcelsAt(place), place == 7 ? 8 : 0);
        }
        for (int hour = 0; hour < 6; hour++) {
            CHECKS.same("gustAt " + hour, post.gustAt(hour), gusts[hour]);
        }
        CHECKS.same("balloonCount", post.balloonCount(), 3);
        for (int b = 0; b < 3; b++) {
            int[] got = {post.placeOf(b), post.lift(b), post.stringLength(b), post.load(b), post.height(b), post.stateOf(b),
                post.parcelsOf(b)};
            for (int i = 0; i < got.length; i++) {
                CHECKS.same("balloon " + b + " value " + i, got[i], balloons[b][i]);
            }
        }
        CHECKS.same("parcelCount", post.parcelCount(), 4);
        for (int p = 0; p < 4; p++) {
            int[] got = {post.weight(p), post.destination(p), post.parcelState(p), post.balloonOf(p), post.parcelPlace(p), post.fare(p)};
            for (int i = 0; i < got.length; i++) {
                CHECKS.same("parcel " + p + " value " + i, got[i], parcels[p][i]);
            }
            CHECKS.same("parcelWith " + (10 + p), post.parcelWith(10 + p), p);
        }
        CHECKS.same("leak", post.setLeak(3), 3);
    }

    private static void likeTheScript() {
        CHECKS.sameText("state", Checks.stateOf(new BalloonPost()), Checks.stateOf(Checks.after(SCRIPT)));
    }

    private static void emptyRest() {
        BalloonPost post = new BalloonPost();
        CHECKS.same("undoCount", post.undoCount(), 0);
        CHECKS.same("undo", post.undo(), -1);
        CHECKS.same("reportByte 0", post.reportByte(0), -1);
        CHECKS.same("scriptErrorKind", post.scriptErrorKind(), 0);
        CHECKS.same("scriptErrorOffset", post.scriptErrorOffset(), -1);
        CHECKS.same("truncateInput 0", post.truncateInput(0), 0);
        CHECKS.throwsArgument("truncateInput 1", () -> post.truncateInput(1));
        CHECKS.throwsNoSuch("restoreSnapshot", post::restoreSnapshot);
        CHECKS.same("first append", post.append(0, 0, 0, 0, 0), 20);
    }

    private static void constants() {
        int[] got = {BalloonPost.NONE, BalloonPost.MOORED, BalloonPost.FLYING, BalloonPost.CAUGHT, BalloonPost.LYING,
            BalloonPost.TIED, BalloonPost.CLAIMED, BalloonPost.ALLOWED, BalloonPost.NOT_LYING, BalloonPost.NOT_MOORED,
            BalloonPost.ELSEWHERE, BalloonPost.NO_KNOT, BalloonPost.TOO_HEAVY, BalloonPost.UNDER_TREE};
        int[] want = {-1, 0, 1, 2, 0, 1, 2, 0, 1, 2, 3, 4, 5, 6};
        for (int i = 0; i < want.length; i++) {
            CHECKS.same("constant " + i, got[i], want[i]);
        }
    }
}
