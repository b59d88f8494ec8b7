import java.util.function.IntUnaryOperator;

/** Promises 26 to 49, and 58 to 64. Their edges and wrong numbers; FirstStateTest has their ordinary answers as well. */
public final class ReadersTest {
    private static final Checks CHECKS = new Checks("ReadersTest");
    private static final int MIN = Integer.MIN_VALUE;
    private static final int MAX = Integer.MAX_VALUE;

    public static void main(String[] args) {
        wrongNumbers();
        street();
        gustAt();
        balloons();
        parcels();
        parcelWith();
        takingsAndDelivered();
        meanLift();
        claimedShare();
        violations();
        writeStreet();
        reportByte();
        CHECKS.finish();
    }

    private static void wrongNumbers() {
        BalloonPost post = new BalloonPost();
        outside("roof", post::roof, 12);
        outside("tree", post::tree, 12);
        outside("parcelsAt", post::parcelsAt, 12);
        outside("placeOf", post::placeOf, 3);
        outside("lift", post::lift, 3);
        outside("stringLength", post::stringLength, 3);
        outside("load", post::load, 3);
        outside("height", post::height, 3);
        outside("stateOf", post::stateOf, 3);
        outside("parcelsOf", post::parcelsOf, 3);
        outside("weight", post::weight, 4);
        outside("destination", post::destination, 4);
        outside("parcelState", post::parcelState, 4);
        outside("balloonOf", post::balloonOf, 4);
        outside("parcelPlace", post::parcelPlace, 4);
        outside("fare", post::fare, 4);
        Checks.run(post, "street 30;");
        outside("roof", post::roof, 30);
        outside("tree", post::tree, 30);
        outside("parcelsAt", post::parcelsAt, 30);
        outside("lift without balloons", post::lift, 0);
        outside("fare without parcels", post::fare, 0);
    }

    private static void outside(String name, IntUnaryOperator reader, int count) {
        for (int wrong : new int[] {-1, count, count + 1, 100, MIN, MAX}) {
            CHECKS.throwsIndex(name + " " + wrong, () -> reader.applyAsInt(wrong));
        }
        if (count > 0) {
            reader.applyAsInt(count - 1);
        }
    }

    // Promises 26 to 32, and 34
    private static void street() {
        BalloonPost post = Checks.after("street 30;roof 29 7;tree 0 9;roof 0 1;parcel 1 29 0 1;parcel 1 29 0 2;parcel 1 28 0 3;gas 100;hours 24;"
                + "balloon 29 9 9;tie 1 0;");
        CHECKS.same("streetLength", post.streetLength(), 30);
        CHECKS.same("hour", post.hour(), 24);
        CHECKS.same("gas", post.gas(), 150);
        CHECKS.same("balloonCount", post.balloonCount(), 1);
        CHECKS.same("parcelCount", post.parcelCount(), 3);
        CHECKS.same("roof 29", post.roof(29), 7);
        CHECKS.same("roof 0", post.roof(0), 1);
        CHECKS.same("tree 29", post.tree(29), 0);
        CHECKS.same("tree 0", post.tree(0), 9);
        CHECKS.same("parcelsAt 29: the tied one does not lie", post.parcelsAt(29), 1);
        CHECKS.same("parcelsAt 28", post.parcelsAt(28), 4);
        CHECKS.same("parcelsAt 0", post.parcelsAt(0), 0);
        post.untie(1);
        CHECKS.same("parcelsAt 29: both", post.parcelsAt(29), 3);
        post.claim(29, 1);
        CHECKS.same("parcelsAt 29: the claimed one does not lie", post.parcelsAt(29), 2);
        CHECKS.same("parcelCount: claimed ones count", post.parcelCount(), 3);
        BalloonPost full = Checks.after("street 8;repeat 15(parcel 1 7 1 7;claim 7 7;);parcel 1 7 1 8;");
        CHECKS.same("parcelsAt 7: the last of 16", full.parcelsAt(7), 1 << 15);
    }

    // Promise 33
    private static void gustAt() {
        BalloonPost post = new BalloonPost();
        int[] gusts = {2, 1, -1};
        for (int hour : new int[] {0, 1, 2, 3, 500, 998, 999}) {
            CHECKS.same("gustAt " + hour, post.gustAt(hour), gusts[hour % 3]);
        }
        for (int wrong : new int[] {-1, 1000, MIN, MAX}) {
            CHECKS.throwsArgument("gustAt " + wrong, () -> post.gustAt(wrong));
        }
        BalloonPost none = Checks.after("street 8;");
        CHECKS.same("without gusts", none.gustAt(0), 0);
        CHECKS.same("without gusts", none.gustAt(999), 0);
        CHECKS.throwsArgument("without gusts, 1000", () -> none.gustAt(1000));
    }

    // Promises 35 to 42
    private static void balloons() {
        BalloonPost post = Checks.after("street 8;repeat 8(balloon 7 20 9;);parcel 9 7 0 0;parcel 8 7 0 1;tie 0 7;tie 1 7;launch 0;launch 7;");
        CHECKS.same("placeOf", post.placeOf(7), 7);
        CHECKS.same("lift", post.lift(7), 20);
        CHECKS.same("stringLength", post.stringLength(7), 9);
        CHECKS.same("load", post.load(7), 17);
        CHECKS.same("load of another", post.load(6), 0);
        CHECKS.same("height by the load", post.height(7), 3);
        CHECKS.same("height by the string", post.height(6), 9);
        CHECKS.same("stateOf", post.stateOf(7), BalloonPost.FLYING);
        CHECKS.same("stateOf", post.stateOf(6), BalloonPost.MOORED);
        CHECKS.same("parcelsOf", post.parcelsOf(7), 3);
        CHECKS.same("parcelsOf another", post.parcelsOf(0), 0);
        CHECKS.same("flyingBalloons", post.flyingBalloons(), 129);
        post.moor(0);
        CHECKS.same("flyingBalloons", post.flyingBalloons(), 128);
        post.addGust(-1);
        post.setTree(6, 3);
        post.passHours(1);
        CHECKS.same("stateOf", post.stateOf(7), BalloonPost.CAUGHT);
        CHECKS.same("a caught one does not fly", post.flyingBalloons(), 0);
        CHECKS.same("the height of a caught one", post.height(7), 3);
        CHECKS.same("placeOf", post.placeOf(7), 6);
        CHECKS.same("flyingBalloons without balloons", Checks.after("street 8;").flyingBalloons(), 0);
    }

    // Promises 43 to 48
    private static void parcels() {
        BalloonPost post = Checks.after("street 30;parcel 9 29 0 0;parcel 1 0 29 99;balloon 29 20 9;gust west 3;");
        CHECKS.same("weight", post.weight(0), 9);
        CHECKS.same("destination", post.destination(0), 0);
        CHECKS.same("fare", post.fare(0), 261);
        CHECKS.same("fare eastwards", post.fare(1), 29);
        CHECKS.same("parcelState", post.parcelState(0), BalloonPost.LYING);
        CHECKS.same("balloonOf", post.balloonOf(0), -1);
        CHECKS.same("parcelPlace", post.parcelPlace(0), 29);
        post.tie(0, 0);
        post.launch(0);
        post.passHours(1);
        CHECKS.same("parcelState tied", post.parcelState(0), BalloonPost.TIED);
        CHECKS.same("balloonOf tied", post.balloonOf(0), 0);
        CHECKS.same("parcelPlace tied", post.parcelPlace(0), 26);
        CHECKS.same("the fare is that of the whole way", post.fare(0), 261);
        post.moor(0);
        post.untie(0);
        CHECKS.same("parcelPlace untied", post.parcelPlace(0), 26);
        post.claim(26, 0);
        CHECKS.same("parcelState claimed", post.parcelState(0), BalloonPost.CLAIMED);
        CHECKS.same("balloonOf claimed", post.balloonOf(0), -1);
        CHECKS.same("parcelPlace claimed", post.parcelPlace(0), -1);
        CHECKS.same("weight claimed", post.weight(0), 9);
        CHECKS.same("destination claimed", post.destination(0), 0);
        CHECKS.same("fare claimed", post.fare(0), 261);
    }

    // Promise 49
    private static void parcelWith() {
        BalloonPost post = Checks.after("street 8;parcel 1 0 1 99;parcel 1 0 1 0;claim 0 99;parcel 1 2 1 99;balloon 0 9 9;tie 1 0;");
        CHECKS.same("the unclaimed one", post.parcelWith(99), 2);
        CHECKS.same("a tied one", post.parcelWith(0), 1);
        for (int number : new int[] {1, -1, 100, MIN, MAX}) {
            CHECKS.same("parcelWith " + number, post.parcelWith(number), -1);
        }
        post.claim(2, 99);
        CHECKS.same("both claimed", post.parcelWith(99), -1);
    }

    // Promises 58 and 59
    private static void takingsAndDelivered() {
        BalloonPost post = Checks.after("street 8;gust east 1;balloon 0 30 9;parcel 3 0 1 1;parcel 5 0 1 2;parcel 1 0 2 3;tie 0 0;tie 1 0;tie 2 0;"
                + "launch 0;hours 1;moor 0;untie 0;untie 1;untie 2;");
        CHECKS.same("takings", post.takings(), 0);
        CHECKS.same("claim", post.claim(1, 1), 3);
        CHECKS.same("claim", post.claim(1, 2), 5);
        CHECKS.same("claim elsewhere", post.claim(1, 3), 0);
        CHECKS.same("takings", post.takings(), 8);
        CHECKS.same("deliveredCount", post.deliveredCount(), 2);
        post.undo();
        post.undo();
        CHECKS.same("takings undone", post.takings(), 3);
        CHECKS.same("deliveredCount undone", post.deliveredCount(), 1);
    }

    // Promise 60
    private static void meanLift() {
        BalloonPost post = Checks.after("street 8;");
        CHECKS.sameDouble("without balloons", post.meanLift(), 0.0);
        post.addBalloon(0, 1, 1);
        CHECKS.sameDouble("one", post.meanLift(), 1.0);
        post.addBalloon(0, 2, 1);
        CHECKS.sameDouble("two", post.meanLift(), 1.5);
        post.addBalloon(0, 2, 1);
        CHECKS.sameDouble("three", post.meanLift(), 5.0 / 3.0);
        post.fill(0, 3);
        CHECKS.sameDouble("filled", post.meanLift(), 8.0 / 3.0);
    }

    // Promise 61
    private static void claimedShare() {
        BalloonPost post = Checks.after("street 8;");
        CHECKS.sameDouble("without parcels", post.claimedShare(), 0.0f);
        post.addParcel(1, 0, 1, 0);
        post.addParcel(1, 0, 1, 1);
        post.addParcel(1, 0, 1, 2);
        CHECKS.sameDouble("none claimed", post.claimedShare(), 0.0f);
        post.claim(0, 1);
        CHECKS.sameDouble("a third, as a float", post.claimedShare(), 1.0f / 3.0f);
        post.claim(0, 0);
        post.claim(0, 2);
        CHECKS.sameDouble("all", post.claimedShare(), 1.0f);
    }

    // Promise 62
    private static void violations() {
        CHECKS.same("at first", new BalloonPost().violations(), 0);
        BalloonPost post = Checks.after("street 8;leak 1;gust east 1;tree 3 9;parcel 1 0 1 5;claim 0 5;parcel 1 0 1 5;balloon 0 9 9;balloon 0 1 1;"
                + "balloon 0 9 2;parcel 8 0 1 6;tie 2 0;tie 1 2;fill 2 1;launch 0;launch 1;launch 2;hours 3;");
        CHECKS.same("after leaks and sinking", post.violations(), 0);
        CHECKS.same("caught", post.stateOf(2), BalloonPost.CAUGHT);
        post.free(2);
        CHECKS.same("after freeing", post.violations(), 0);
        post.fill(2, 7);
        CHECKS.same("after filling", post.violations(), 0);
        post.undo();
        CHECKS.same("after undoing", post.violations(), 0);
        post.launch(0);
        post.passHours(24);
        CHECKS.same("after more hours", post.violations(), 0);
    }

    // Promise 63
    private static void writeStreet() {
        BalloonPost post = Checks.after("street 10;balloon 3 9 9;balloon 1 9 9;balloon 1 9 9;parcel 1 1 0 0;parcel 1 4 0 1;parcel 1 5 0 2;claim 5 2;"
                + "tree 1 1;tree 4 1;tree 5 1;roof 5 9;roof 6 1;parcel 1 3 0 3;tie 3 0;parcel 1 7 0 4;roof 7 1;roof 9 9;tree 9 1;");
        CHECKS.same("length", post.writeStreet(), 10);
        report(post, ".1.0ptrp.t");
        post.addGust(3);
        post.launch(0);
        post.passHours(1);
        report(post, ".1.0ptrp.t");
        CHECKS.same("length", post.writeStreet(), 10);
        report(post, ".1..0trp.t");
        Checks.run(post, "street 30;repeat 7(balloon 29 1 1;);balloon 0 1 1;");
        CHECKS.same("longer street", post.writeStreet(), 30);
        report(post, "7............................0");
        Checks.run(post, "street 8;");
        report(post, "7............................0");
        CHECKS.same("shorter street", post.writeStreet(), 8);
        report(post, "........");
        BalloonPost caught = Checks.after("street 8;tree 1 9;gust east 1;balloon 0 9 9;launch 0;hours 1;");
        caught.writeStreet();
        report(caught, ".0......");
    }

    private static void report(BalloonPost post, String want) {
        StringBuilder got = new StringBuilder();
        for (int i = 0; post.reportByte(i) != -1; i++) {
            got.append((char) post.reportByte(i));
        }
        CHECKS.sameText("report", got.toString(), want);
    }

    // Promise 64
    private static void reportByte() {
        BalloonPost post = new BalloonPost();
        CHECKS.same("nothing was written", post.reportByte(0), -1);
        post.writeStreet();
        CHECKS.same("first", post.reportByte(0), '.');
        CHECKS.same("last", post.reportByte(11), 'r');
        for (int wrong : new int[] {-1, 12, 30, 31, MIN, MAX}) {
            CHECKS.same("reportByte " + wrong, post.reportByte(wrong), -1);
        }
    }
}
