/** Promises 5 to 19, and what Terms says of hours, relieving, freeing, gas and claims. */
public final class ChangesTest {
    private static final Checks CHECKS = new Checks("ChangesTest");
    private static final int MIN = Integer.MIN_VALUE;
    private static final int MAX = Integer.MAX_VALUE;

    public static void main(String[] args) {
        setRoof();
        setTree();
        addGust();
        setLeak();
        addBalloon();
        addParcel();
        tie();
        untie();
        launch();
        moor();
        free();
        freeRelieves();
        fill();
        addGas();
        claim();
        passHours();
        drifting();
        leaking();
        throwsChangeNothing();
        CHECKS.finish();
    }

    // Promise 5
    private static void setRoof() {
        BalloonPost post = new BalloonPost();
        CHECKS.same("setRoof 5 9", post.setRoof(5, 9), 3);
        CHECKS.same("setRoof 5 0", post.setRoof(5, 0), 9);
        CHECKS.same("setRoof 11 1", post.setRoof(11, 1), 9);
        CHECKS.same("roof 5", post.roof(5), 0);
        CHECKS.same("roof 11", post.roof(11), 1);
        CHECKS.same("tree 5", post.tree(5), 0);
        CHECKS.same("undoCount", post.undoCount(), 3);
        for (int place : new int[] {-1, 12, MIN, MAX}) {
            CHECKS.throwsIndex("setRoof " + place, () -> post.setRoof(place, 0));
            CHECKS.throwsIndex("setRoof both wrong " + place, () -> post.setRoof(place, 10));
        }
        for (int height : new int[] {-1, 10, MIN, MAX}) {
            CHECKS.throwsArgument("setRoof height " + height, () -> post.setRoof(5, height));
        }
        CHECKS.same("undoCount after throws", post.undoCount(), 3);
    }

    // Promise 6
    private static void setTree() {
        BalloonPost post = new BalloonPost();
        CHECKS.same("setTree 8 9", post.setTree(8, 9), 2);
        CHECKS.same("setTree 8 0", post.setTree(8, 0), 9);
        CHECKS.same("setTree 2 9 under the flying balloon", post.setTree(2, 9), 0);
        CHECKS.same("tree 2", post.tree(2), 9);
        CHECKS.same("roof 2", post.roof(2), 0);
        CHECKS.same("the balloon stays flying", post.stateOf(0), BalloonPost.FLYING);
        for (int place : new int[] {-1, 12, MIN, MAX}) {
            CHECKS.throwsIndex("setTree " + place, () -> post.setTree(place, 0));
            CHECKS.throwsIndex("setTree both wrong " + place, () -> post.setTree(place, -1));
        }
        for (int height : new int[] {-1, 10, MIN, MAX}) {
            CHECKS.throwsArgument("setTree height " + height, () -> post.setTree(5, height));
        }
        CHECKS.same("undoCount", post.undoCount(), 3);
    }

    // Promise 7
    private static void addGust() {
        BalloonPost post = Checks.after("street 8;");
        for (int gust : new int[] {-4, 4, MIN, MAX}) {
            CHECKS.throwsArgument("addGust " + gust, () -> post.addGust(gust));
        }
        for (int i = 0; i < 12; i++) {
            CHECKS.same("addGust", post.addGust(i % 7 - 3), i + 1);
        }
        for (int i = 0; i < 12; i++) {
            CHECKS.same("gustAt " + i, post.gustAt(i), i % 7 - 3);
        }
        CHECKS.throwsState("13th gust", () -> post.addGust(0));
        CHECKS.throwsArgument("13th gust, out of range", () -> post.addGust(4));
        CHECKS.same("gustAt 12", post.gustAt(12), -3);
    }

    // Promise 8
    private static void setLeak() {
        BalloonPost post = new BalloonPost();
        CHECKS.same("setLeak 1", post.setLeak(1), 3);
        CHECKS.same("setLeak 9", post.setLeak(9), 1);
        CHECKS.same("setLeak 9 again", post.setLeak(9), 9);
        for (int hours : new int[] {0, 10, -1, MIN, MAX}) {
            CHECKS.throwsArgument("setLeak " + hours, () -> post.setLeak(hours));
        }
        CHECKS.same("undoCount", post.undoCount(), 3);
    }

    // Promise 9
    private static void addBalloon() {
        BalloonPost post = Checks.after("street 9;");
        CHECKS.same("addBalloon", post.addBalloon(8, 30, 9), 0);
        CHECKS.same("addBalloon", post.addBalloon(0, 1, 1), 1);
        CHECKS.same("place", post.placeOf(0), 8);
        CHECKS.same("lift", post.lift(0), 30);
        CHECKS.same("string", post.stringLength(0), 9);
        CHECKS.same("state", post.stateOf(0), BalloonPost.MOORED);
        CHECKS.same("height", post.height(1), 1);
        for (int wrong : new int[] {-1, 9, MIN, MAX}) {
            CHECKS.throwsIndex("addBalloon place " + wrong, () -> post.addBalloon(wrong, 0, 0));
        }
        for (int wrong : new int[] {0, 31, MIN, MAX}) {
            CHECKS.throwsArgument("addBalloon lift " + wrong, () -> post.addBalloon(0, wrong, 1));
        }
        for (int wrong : new int[] {0, 10, MIN, MAX}) {
            CHECKS.throwsArgument("addBalloon string " + wrong, () -> post.addBalloon(0, 1, wrong));
        }
        for (int i = 2; i < 8; i++) {
            CHECKS.same("addBalloon", post.addBalloon(i, i, i), i);
        }
        CHECKS.throwsState("9th balloon", () -> post.addBalloon(0, 1, 1));
        CHECKS.throwsArgument("9th balloon, lift 31", () -> post.addBalloon(0, 31, 1));
        CHECKS.throwsIndex("9th balloon, place 9", () -> post.addBalloon(9, 1, 1));
        CHECKS.same("balloonCount", post.balloonCount(), 8);
    }

    // Promise 10
    private static void addParcel() {
        BalloonPost post = Checks.after("street 9;");
        CHECKS.same("addParcel", post.addParcel(9, 8, 0, 99), 0);
        CHECKS.same("addParcel", post.addParcel(1, 0, 8, 0), 1);
        CHECKS.same("weight", post.weight(0), 9);
        CHECKS.same("place", post.parcelPlace(0), 8);
        CHECKS.same("destination", post.destination(0), 0);
        CHECKS.same("state", post.parcelState(0), BalloonPost.LYING);
        CHECKS.same("parcelWith 99", post.parcelWith(99), 0);
        for (int wrong : new int[] {-1, 9, MIN, MAX}) {
            CHECKS.throwsIndex("addParcel origin " + wrong, () -> post.addParcel(0, wrong, 0, 100));
            CHECKS.throwsIndex("addParcel destination " + wrong, () -> post.addParcel(0, 0, wrong, 100));
            CHECKS.throwsIndex("addParcel both " + wrong, () -> post.addParcel(1, wrong, wrong, 1));
        }
        for (int wrong : new int[] {0, 10, MIN, MAX}) {
            CHECKS.throwsArgument("addParcel weight " + wrong, () -> post.addParcel(wrong, 0, 1, 1));
        }
        for (int wrong : new int[] {-1, 100, MIN, MAX}) {
            CHECKS.throwsArgument("addParcel number " + wrong, () -> post.addParcel(1, 0, 1, wrong));
        }
        CHECKS.throwsArgument("addParcel same place", () -> post.addParcel(1, 3, 3, 1));
        CHECKS.throwsArgument("addParcel same place and number", () -> post.addParcel(1, 3, 3, 99));
        CHECKS.throwsState("addParcel same number", () -> post.addParcel(1, 0, 1, 99));
        CHECKS.same("claim it", post.claim(8, 99), 0);
        CHECKS.same("the number is free again", post.addParcel(1, 0, 1, 99), 2);
        for (int i = 3; i < 16; i++) {
            CHECKS.same("addParcel", post.addParcel(1, 0, 1, i), i);
        }
        CHECKS.throwsState("17th parcel", () -> post.addParcel(1, 0, 1, 50));
        CHECKS.throwsArgument("17th parcel, number 100", () -> post.addParcel(1, 0, 1, 100));
        CHECKS.same("parcelCount", post.parcelCount(), 16);
        post.claim(0, 3);
        CHECKS.throwsState("claimed parcels count as well", () -> post.addParcel(1, 0, 1, 50));
    }

    // Promise 11
    private static void tie() {
        BalloonPost post = Checks.after("street 8;balloon 1 10 5;balloon 2 9 5;balloon 1 30 9;parcel 5 1 2 1;parcel 4 1 2 2;parcel 1 1 2 3;"
            + "parcel 1 1 2 4;parcel 1 1 2 5;");
        CHECKS.same("tie 0 0", post.tie(0, 0), 5);
        CHECKS.same("tie 1 0: one less than the lift", post.tie(1, 0), 9);
        CHECKS.throwsState("the load would be the lift", () -> post.tie(2, 0));
        CHECKS.throwsState("elsewhere", () -> post.tie(2, 1));
        CHECKS.throwsState("tied already", () -> post.tie(0, 2));
        CHECKS.same("parcelState 0", post.parcelState(0), BalloonPost.TIED);
        CHECKS.same("balloonOf 1", post.balloonOf(1), 0);
        for (int wrong : new int[] {-1, 5, MIN, MAX}) {
            CHECKS.throwsIndex("tie parcel " + wrong, () -> post.tie(wrong, 0));
        }
        for (int wrong : new int[] {-1, 3, MIN, MAX}) {
            CHECKS.throwsIndex("tie balloon " + wrong, () -> post.tie(0, wrong));
        }
        post.launch(2);
        CHECKS.throwsState("not moored", () -> post.tie(2, 2));
        post.moor(2);
        CHECKS.same("tie 2 2", post.tie(2, 2), 1);
        CHECKS.same("tie 3 2", post.tie(3, 2), 2);
        CHECKS.same("tie 4 2", post.tie(4, 2), 3);
        CHECKS.same("untie 1", post.untie(1), 0);
        CHECKS.same("tie 1 2", post.tie(1, 2), 7);
        CHECKS.same("untie 0", post.untie(0), 0);
        CHECKS.throwsState("a fifth knot", () -> post.tie(0, 2));
        CHECKS.same("load 2", post.load(2), 7);
    }

    // Promise 12
    private static void untie() {
        BalloonPost post = new BalloonPost();
        CHECKS.throwsState("its balloon is flying", () -> post.untie(0));
        CHECKS.throwsState("it lies", () -> post.untie(3));
        for (int wrong : new int[] {-1, 4, MIN, MAX}) {
            CHECKS.throwsIndex("untie " + wrong, () -> post.untie(wrong));
        }
        CHECKS.same("untie 2", post.untie(2), 1);
        CHECKS.same("place", post.parcelPlace(2), 3);
        CHECKS.same("state", post.parcelState(2), BalloonPost.LYING);
        CHECKS.same("balloonOf", post.balloonOf(2), -1);
        CHECKS.same("load", post.load(1), 0);
        CHECKS.same("parcelsAt", post.parcelsAt(3), 4);
        post.moor(0);
        CHECKS.same("untie 0", post.untie(0), 0);
        CHECKS.same("it lies where the balloon is", post.parcelPlace(0), 2);
        post.claim(3, 12);
        CHECKS.throwsState("it is claimed", () -> post.untie(2));
        post.tie(0, 0);
        post.setTree(3, 9);
        post.launch(0);
        post.passHours(1);
        CHECKS.same("caught", post.stateOf(0), BalloonPost.CAUGHT);
        CHECKS.throwsState("its balloon is caught", () -> post.untie(0));
    }

    // Promise 13
    private static void launch() {
        BalloonPost post = new BalloonPost();
        CHECKS.throwsState("flying already", () -> post.launch(0));
        CHECKS.same("launch 2: the string is shorter", post.launch(2), 2);
        CHECKS.same("state", post.stateOf(2), BalloonPost.FLYING);
        post.setTree(3, 1);
        CHECKS.throwsState("a tree as high as the balloon", () -> post.launch(1));
        CHECKS.same("state", post.stateOf(1), BalloonPost.MOORED);
        post.setTree(3, 0);
        CHECKS.same("launch 1: the spare lift is smaller", post.launch(1), 1);
        for (int wrong : new int[] {-1, 3, MIN, MAX}) {
            CHECKS.throwsIndex("launch " + wrong, () -> post.launch(wrong));
        }
    }

    // Promise 14
    private static void moor() {
        BalloonPost post = new BalloonPost();
        CHECKS.same("moor 0", post.moor(0), 2);
        CHECKS.same("state", post.stateOf(0), BalloonPost.MOORED);
        CHECKS.same("the parcels stay tied", post.parcelsOf(0), 3);
        CHECKS.same("the lift stays", post.lift(0), 10);
        CHECKS.throwsState("moored already", () -> post.moor(0));
        for (int wrong : new int[] {-1, 3, MIN, MAX}) {
            CHECKS.throwsIndex("moor " + wrong, () -> post.moor(wrong));
        }
        post.setTree(3, 9);
        post.launch(0);
        post.passHours(1);
        CHECKS.throwsState("caught", () -> post.moor(0));
    }

    // Promise 15
    private static void free() {
        BalloonPost post = Checks.after("street 8;tree 1 9;gust east 1;balloon 0 1 1;balloon 0 2 1;balloon 0 3 1;launch 0;launch 1;launch 2;"
            + "hours 1;");
        CHECKS.same("free 2", post.free(2), 0);
        CHECKS.same("free 1", post.free(1), 0);
        CHECKS.same("free 0", post.free(0), 0);
        for (int balloon = 0; balloon < 3; balloon++) {
            int freed = balloon;
            CHECKS.same("a lift of 1 is left", post.lift(balloon), 1);
            CHECKS.same("state", post.stateOf(balloon), BalloonPost.MOORED);
            CHECKS.same("place", post.placeOf(balloon), 1);
            CHECKS.throwsState("freed already", () -> post.free(freed));
        }
        for (int wrong : new int[] {-1, 3, MIN, MAX}) {
            CHECKS.throwsIndex("free " + wrong, () -> post.free(wrong));
        }
        CHECKS.throwsState("flying", () -> new BalloonPost().free(0));
        CHECKS.same("violations", post.violations(), 0);
    }

    /** The heaviest falls first, of several the one with the smallest number, until the load is less than the lift. */
    private static void freeRelieves() {
        BalloonPost post = Checks.after("street 8;tree 1 9;gust east 1;balloon 0 9 9;parcel 1 0 7 9;parcel 3 0 7 8;parcel 3 0 7 7;parcel 1 0 7 6;"
            + "tie 2 0;tie 3 0;tie 1 0;tie 0 0;launch 0;hours 1;");
        CHECKS.same("caught", post.stateOf(0), BalloonPost.CAUGHT);
        CHECKS.same("free", post.free(0), 1);
        CHECKS.same("lift", post.lift(0), 7);
        CHECKS.same("parcel 1 fell", post.parcelsOf(0), 1 + 4 + 8);
        CHECKS.same("it lies there", post.parcelsAt(1), 2);
        CHECKS.same("violations", post.violations(), 0);
        BalloonPost three = Checks.after("street 8;tree 1 9;gust east 1;balloon 0 3 9;parcel 1 0 7 1;parcel 1 0 7 2;tie 0 0;tie 1 0;launch 0;hours 1;");
        CHECKS.same("free: lift 1", three.free(0), 2);
        CHECKS.same("both lie", three.parcelsAt(1), 3);
        BalloonPost kept = Checks.after("street 8;tree 1 9;gust east 1;balloon 0 5 9;parcel 2 0 7 1;tie 0 0;launch 0;hours 1;");
        CHECKS.same("free: load 2, lift 3", kept.free(0), 0);
        CHECKS.same("still tied", kept.balloonOf(0), 0);
    }

    // Promise 16
    private static void fill() {
        BalloonPost post = new BalloonPost();
        CHECKS.same("fill 1 24", post.fill(1, 24), 30);
        CHECKS.same("gas", post.gas(), 26);
        CHECKS.throwsState("lift 31", () -> post.fill(1, 1));
        CHECKS.throwsState("not moored", () -> post.fill(0, 1));
        CHECKS.same("fill 2 26: all the gas", post.fill(2, 26), 30);
        CHECKS.same("gas", post.gas(), 0);
        post.moor(0);
        CHECKS.throwsState("no gas", () -> post.fill(0, 1));
        post.addGas(7);
        CHECKS.throwsState("less gas", () -> post.fill(0, 8));
        CHECKS.same("fill 0 7", post.fill(0, 7), 17);
        for (int wrong : new int[] {-1, 3, MIN, MAX}) {
            CHECKS.throwsIndex("fill balloon " + wrong, () -> post.fill(wrong, 0));
        }
        for (int wrong : new int[] {0, 30, -1, MIN, MAX}) {
            CHECKS.throwsArgument("fill gas " + wrong, () -> post.fill(0, wrong));
        }
        CHECKS.same("violations", post.violations(), 0);
        BalloonPost one = Checks.after("street 8;balloon 0 1 1;");
        CHECKS.same("fill 29", one.fill(0, 29), 30);
        BalloonPost caught = Checks.after("street 8;tree 1 9;gust east 1;balloon 0 9 9;launch 0;hours 1;");
        CHECKS.throwsState("caught", () -> caught.fill(0, 1));
        CHECKS.throwsArgument("caught and out of range", () -> caught.fill(0, 30));
    }

    // Promise 17
    private static void addGas() {
        BalloonPost post = new BalloonPost();
        CHECKS.same("addGas 1", post.addGas(1), 51);
        for (int i = 1; i <= 4; i++) {
            CHECKS.same("addGas 200", post.addGas(200), 51 + 200 * i);
        }
        CHECKS.throwsState("851 + 149", () -> post.addGas(149));
        CHECKS.same("851 + 148", post.addGas(148), 999);
        CHECKS.throwsState("999 + 1", () -> post.addGas(1));
        for (int wrong : new int[] {0, 201, -1, MIN, MAX}) {
            CHECKS.throwsArgument("addGas " + wrong, () -> post.addGas(wrong));
        }
        CHECKS.same("gas", post.gas(), 999);
    }

    // Promise 18
    private static void claim() {
        BalloonPost post = Checks.after("street 8;parcel 9 7 0 5;parcel 2 1 4 6;parcel 3 4 1 7;balloon 1 9 9;tie 1 0;gust east 3;launch 0;hours 1;moor 0;");
        CHECKS.throwsNoSuch("it is tied there", () -> post.claim(4, 6));
        post.untie(1);
        CHECKS.throwsNoSuch("it lies elsewhere", () -> post.claim(1, 6));
        CHECKS.throwsNoSuch("no such number", () -> post.claim(4, 100));
        CHECKS.throwsNoSuch("no such number", () -> post.claim(4, MIN));
        for (int wrong : new int[] {-1, 8, MIN, MAX}) {
            CHECKS.throwsIndex("claim place " + wrong, () -> post.claim(wrong, 5));
        }
        CHECKS.same("claim at the destination: 2 * 3", post.claim(4, 6), 6);
        CHECKS.same("claim at the origin", post.claim(7, 5), 0);
        CHECKS.same("takings", post.takings(), 6);
        CHECKS.same("deliveredCount", post.deliveredCount(), 1);
        CHECKS.same("state", post.parcelState(1), BalloonPost.CLAIMED);
        CHECKS.same("state", post.parcelState(0), BalloonPost.CLAIMED);
        CHECKS.same("state of the other", post.parcelState(2), BalloonPost.LYING);
        CHECKS.throwsNoSuch("claimed already", () -> post.claim(4, 6));
    }

    // Promise 19
    private static void passHours() {
        BalloonPost post = new BalloonPost();
        CHECKS.same("passHours 1", post.passHours(1), 2);
        CHECKS.same("passHours 24", post.passHours(24), 26);
        for (int wrong : new int[] {0, 25, -1, MIN, MAX}) {
            CHECKS.throwsArgument("passHours " + wrong, () -> post.passHours(wrong));
        }
        for (int i = 0; i < 40; i++) {
            post.passHours(24);
        }
        CHECKS.same("hour", post.hour(), 986);
        CHECKS.throwsState("986 + 14", () -> post.passHours(14));
        CHECKS.throwsArgument("986 + 25", () -> post.passHours(25));
        CHECKS.same("986 + 13", post.passHours(13), 999);
        CHECKS.throwsState("999 + 1", () -> post.passHours(1));
        CHECKS.same("hour", post.hour(), 999);
    }

    private static void drifting() {
        BalloonPost post = Checks.after("street 8;gust east 3;gust west 2;gust east 0;leak 9;balloon 5 9 4;balloon 1 30 9;balloon 3 9 4;launch 0;launch 1;");
        post.passHours(1);
        CHECKS.same("the end in the east", post.placeOf(0), 7);
        CHECKS.same("three places", post.placeOf(1), 4);
        CHECKS.same("moored ones stay", post.placeOf(2), 3);
        post.passHours(1);
        CHECKS.same("two places west", post.placeOf(0), 5);
        CHECKS.same("two places west", post.placeOf(1), 2);
        post.passHours(1);
        CHECKS.same("no wind", post.placeOf(0), 5);
        post.setRoof(7, 5);
        post.setTree(6, 3);
        post.passHours(1);
        CHECKS.same("over the lower tree, in front of the higher roof", post.placeOf(0), 6);
        CHECKS.same("still flying", post.stateOf(0), BalloonPost.FLYING);
        CHECKS.same("balloon 1", post.placeOf(1), 5);
        post.setTree(6, 9);
        post.setRoof(5, 4);
        post.setTree(4, 4);
        post.passHours(1);
        CHECKS.same("over a roof of its height, into a tree of its height", post.placeOf(0), 4);
        CHECKS.same("caught", post.stateOf(0), BalloonPost.CAUGHT);
        CHECKS.same("the tree 4 does not catch the higher one", post.stateOf(1), BalloonPost.FLYING);
        CHECKS.same("balloon 1", post.placeOf(1), 3);
        post.passHours(2);
        CHECKS.same("the tree 9 in front of it catches it", post.placeOf(1), 6);
        CHECKS.same("caught", post.stateOf(1), BalloonPost.CAUGHT);
        BalloonPost onItsWay = Checks.after("street 8;gust east 3;tree 2 5;balloon 0 9 5;launch 0;hours 1;");
        CHECKS.same("a tree on its way stops it", onItsWay.placeOf(0), 2);
        CHECKS.same("caught", onItsWay.stateOf(0), BalloonPost.CAUGHT);
        BalloonPost above = Checks.after("street 8;gust west 1;balloon 0 9 5;launch 0;tree 0 9;hours 2;");
        CHECKS.same("the tree where it is already does not catch it", above.stateOf(0), BalloonPost.FLYING);
        BalloonPost roofFirst = Checks.after("street 8;gust west 3;roof 2 6;tree 2 9;balloon 4 9 5;launch 0;hours 1;");
        CHECKS.same("a roof keeps it from the tree", roofFirst.placeOf(0), 3);
        CHECKS.same("flying", roofFirst.stateOf(0), BalloonPost.FLYING);
        BalloonPost still = Checks.after("street 8;balloon 4 9 5;launch 0;hours 9;");
        CHECKS.same("no gusts", still.placeOf(0), 4);
        CHECKS.same("west end", Checks.after("street 8;gust west 3;balloon 1 9 5;launch 0;hours 1;").placeOf(0), 0);
    }

    private static void leaking() {
        BalloonPost post = Checks.after("street 8;leak 2;balloon 0 3 9;balloon 1 9 9;balloon 2 2 9;parcel 2 1 0 0;tie 0 1;launch 0;launch 2;");
        int[] lifts = {3, 2, 2, 1, 1, 1};
        int[] states = {1, 1, 1, 1, 1, 0};
        for (int i = 0; i < lifts.length; i++) {
            post.passHours(1);
            CHECKS.same("lift after " + (i + 1), post.lift(0), lifts[i]);
            CHECKS.same("state after " + (i + 1), post.stateOf(0), states[i]);
        }
        CHECKS.same("moored ones lose nothing", post.lift(1), 9);
        CHECKS.same("lift 2 sinks second time", post.stateOf(2), BalloonPost.MOORED);
        CHECKS.same("violations", post.violations(), 0);
        BalloonPost loaded = Checks.after("street 8;leak 1;balloon 0 9 9;parcel 3 0 1 1;parcel 3 0 1 2;parcel 2 0 1 3;tie 0 0;tie 1 0;tie 2 0;launch 0;hours 1;");
        CHECKS.same("sunk", loaded.stateOf(0), BalloonPost.MOORED);
        CHECKS.same("lift", loaded.lift(0), 8);
        CHECKS.same("the first of the heaviest fell", loaded.parcelsAt(0), 1);
        BalloonPost caught = Checks.after("street 8;leak 1;tree 1 9;gust east 1;balloon 0 9 9;launch 0;hours 5;");
        CHECKS.same("a caught one loses nothing, from the hour in which it is caught on", caught.lift(0), 9);
        BalloonPost reached = Checks.after("street 8;leak 1;gust east 1;balloon 0 5 9;parcel 4 0 1 1;tie 0 0;launch 0;hours 1;");
        CHECKS.same("it is carried first, then it sinks", reached.parcelPlace(0), 1);
        CHECKS.same("its parcel lies", reached.parcelState(0), BalloonPost.LYING);
    }

    private static void throwsChangeNothing() {
        BalloonPost post = new BalloonPost();
        String before = Checks.stateOf(post);
        CHECKS.throwsIndex("setRoof", () -> post.setRoof(12, 1));
        CHECKS.throwsArgument("addGust", () -> post.addGust(9));
        CHECKS.throwsState("tie", () -> post.tie(3, 0));
        CHECKS.throwsState("untie", () -> post.untie(0));
        CHECKS.throwsState("launch", () -> post.launch(0));
        CHECKS.throwsState("free", () -> post.free(0));
        CHECKS.throwsState("fill", () -> post.fill(1, 25));
        CHECKS.throwsState("moor", () -> post.moor(1));
        CHECKS.throwsNoSuch("claim", () -> post.claim(7, 12));
        CHECKS.throwsState("addParcel", () -> post.addParcel(1, 0, 1, 10));
        CHECKS.throwsArgument("passHours", () -> post.passHours(0));
        CHECKS.sameText("the state", Checks.stateOf(post), before);
        CHECKS.same("undoCount", post.undoCount(), 0);
    }
}
