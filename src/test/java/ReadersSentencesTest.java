import java.util.function.ToIntBiFunction;

/** What the document says from undo on, sentence by sentence: each boundary case has a test of its own. */
public final class ReadersSentencesTest {
    private static final Checks CHECKS = new Checks("ReadersSentencesTest");
    private static final Sentences READERS = new Sentences(CHECKS, "Promise 20", null);
    private static final Class<? extends RuntimeException> ARGUMENT = IllegalArgumentException.class;
    private static final String CAUGHT = "street 8;tree 1 9;gust east 1;balloon 0 9 9;parcel 8 0 7 5;tie 0 0;launch 0;hours 1;";
    private static final String NEITHER = "Throws `IndexOutOfBoundsException` if `parcel` or `balloon` does not exist";
    private static final String WRONG_HOURS = "Throws `IllegalArgumentException` if `hours` is out of range";

    public static void main(String[] args) {
        undo();
        undoCount();
        saveSnapshot();
        restoreSnapshot();
        scriptErrorKind();
        scriptErrorOffset();
        streetAndHour();
        counts();
        roofAndTree();
        gustAt();
        parcelsAt();
        placeAndLift();
        stringLoadHeight();
        stateAndParcels();
        flyingBalloons();
        weightDestinationState();
        balloonOfAndPlace();
        fareAndNumber();
        whyNoTie();
        whyNoLaunch();
        heaviestFor();
        bestBalloon();
        placeAfter();
        stateAfter();
        hoursToSink();
        hoursToDestination();
        takingsAndDelivered();
        meanLift();
        claimedShare();
        violations();
        writeStreet();
        reportByte();
        notPromised();
        READERS.finish();
    }

    private static void wrongPlace(ToIntBiFunction<BalloonPost, Integer> reader) {
        READERS.test("Throws `IndexOutOfBoundsException` if `place` is not the number of a place",
                () -> CHECKS.needsIndex("place", BalloonPost::streetLength, reader));
    }

    private static void wrongBalloon(ToIntBiFunction<BalloonPost, Integer> reader) {
        READERS.test("Throws `IndexOutOfBoundsException` if `balloon` is not the number of a balloon",
                () -> CHECKS.needsIndex("balloon", BalloonPost::balloonCount, reader));
    }

    private static void wrongParcel(ToIntBiFunction<BalloonPost, Integer> reader) {
        READERS.test("Throws `IndexOutOfBoundsException` if `parcel` is not the number of a parcel",
                () -> CHECKS.needsIndex("parcel", BalloonPost::parcelCount, reader));
    }

    // ---- promises 20 to 25

    private static void undo() {
        READERS.under("Promise 20");
        READERS.test("Undoes the latest change that has not been undone.", () -> {
            BalloonPost post = new BalloonPost();
            post.addGas(1);
            post.addGas(2);
            post.undo();
            CHECKS.same("the second one", post.gas(), 51);
            post.addGas(4);
            post.undo();
            CHECKS.same("the third one", post.gas(), 51);
            post.undo();
            CHECKS.same("the first one, as the second one has been undone", post.gas(), 50);
        });
        String left = "Returns the number of changes that can still be undone, or NONE if there was nothing to undo.";
        READERS.test(left, () -> CHECKS.same("a new object", new BalloonPost().undo(), -1));
        READERS.test(left, () -> {
            BalloonPost post = new BalloonPost();
            post.addGas(1);
            CHECKS.same("the only one", post.undo(), 0);
            CHECKS.same("nothing more", post.undo(), -1);
            CHECKS.same("still nothing", post.undo(), -1);
            CHECKS.same("gas", post.gas(), 50);
        });
        READERS.test(left, () -> {
            BalloonPost post = new BalloonPost();
            for (int i = 0; i < 9; i++) {
                post.addGas(1);
            }
            for (int i = 7; i >= 0; i--) {
                CHECKS.same("the eighth one and those before it", post.undo(), i);
            }
            CHECKS.same("not the ninth", post.undo(), -1);
            CHECKS.same("gas", post.gas(), 51);
        });
        READERS.test(left, () -> {
            BalloonPost post = new BalloonPost();
            post.saveSnapshot();
            post.addGas(1);
            post.restoreSnapshot();
            CHECKS.same("behind a restored snapshot", post.undo(), -1);
        });
    }

    private static void undoCount() {
        READERS.under("Promise 21");
        READERS.test("Returns the number of changes that can be undone.", () -> {
            BalloonPost post = new BalloonPost();
            CHECKS.same("at first", post.undoCount(), 0);
            post.undo();
            CHECKS.same("behind an undo of nothing", post.undoCount(), 0);
            for (int i = 1; i <= 10; i++) {
                post.addGas(1);
                CHECKS.same("after " + i, post.undoCount(), Math.min(8, i));
            }
            post.undo();
            CHECKS.same("behind an undo", post.undoCount(), 7);
        });
    }

    private static void saveSnapshot() {
        READERS.under("Promise 22");
        String everything = "Saves a snapshot of everything that undo restores, in place of an earlier one.";
        READERS.test(everything, () -> {
            BalloonPost post = Checks.after(CAUGHT);
            post.setLeak(7);
            post.saveSnapshot();
            Checks.run(post, "street 30;gas 1;");
            post.restoreSnapshot();
            BalloonPost want = Checks.after(CAUGHT);
            want.setLeak(7);
            CHECKS.sameText("state", Checks.stateOf(post), Checks.stateOf(want));
        });
        READERS.test(everything, () -> {
            BalloonPost post = new BalloonPost();
            post.saveSnapshot();
            post.addGas(1);
            post.saveSnapshot();
            post.addGas(1);
            post.restoreSnapshot();
            CHECKS.same("the later one", post.gas(), 51);
        });
        READERS.test("This is not a change.", () -> {
            BalloonPost post = new BalloonPost();
            post.saveSnapshot();
            CHECKS.same("undo", post.undo(), -1);
            post.addGas(1);
            post.saveSnapshot();
            CHECKS.same("undoCount", post.undoCount(), 1);
        });
        READERS.test("Returns the hour.", () -> {
            CHECKS.same("the first", Checks.after("street 8;").saveSnapshot(), 0);
            CHECKS.same("the last", Checks.after("street 8;repeat 20(hours 24;hours 24;);hours 24;hours 15;").saveSnapshot(), 999);
        });
    }

    private static void restoreSnapshot() {
        READERS.under("Promise 23");
        READERS.test("Restores the snapshot, which stays saved.", () -> {
            BalloonPost post = new BalloonPost();
            post.saveSnapshot();
            for (int i = 0; i < 3; i++) {
                post.addGas(1);
                post.restoreSnapshot();
                CHECKS.same("gas", post.gas(), 50);
            }
        });
        READERS.test("Nothing can be undone afterwards.", () -> {
            BalloonPost post = new BalloonPost();
            post.addGas(1);
            post.saveSnapshot();
            post.addGas(1);
            post.restoreSnapshot();
            CHECKS.same("undoCount", post.undoCount(), 0);
            CHECKS.same("undo", post.undo(), -1);
            post.addGas(1);
            CHECKS.same("but a later change", post.undo(), 0);
            CHECKS.same("gas", post.gas(), 51);
        });
        READERS.test("Returns the hour, as it is in the snapshot.", () -> {
            BalloonPost post = Checks.after("street 8;");
            post.saveSnapshot();
            post.passHours(5);
            CHECKS.same("hour 0", post.restoreSnapshot(), 0);
            CHECKS.same("hour", post.hour(), 0);
        });
        String none = "Throws `NoSuchElementException` if no snapshot was saved";
        READERS.test(none, () -> CHECKS.throwsNoSuch("a new object", () -> new BalloonPost().restoreSnapshot()));
        READERS.test(none, () -> {
            BalloonPost post = new BalloonPost();
            post.addGas(1);
            Checks.run(post, "street 8;");
            CHECKS.throwsNoSuch("changes save none", post::restoreSnapshot);
            CHECKS.same("and can still be undone", post.undoCount(), 2);
        });
    }

    private static void scriptErrorKind() {
        READERS.under("Promise 24");
        String kind = "Returns the kind (1 to 5) of the error of the latest script, or 0 if it had no error or no script was run.";
        READERS.test(kind, () -> CHECKS.same("no script was run", new BalloonPost().scriptErrorKind(), 0));
        READERS.test(kind, () -> CHECKS.same("no error", Checks.after("street 8;").scriptErrorKind(), 0));
        String[] scripts = {"oops", "street 7;", "street 8;gas 200;gas 200;gas 200;gas 200;gas 200;", "street 8;repeat 1(repeat 1(repeat 1(",
            "street 8;repeat 20(repeat 11(leak 1;););"};
        for (int i = 0; i < scripts.length; i++) {
            String script = scripts[i];
            int want = i + 1;
            READERS.test(kind, () -> {
                BalloonPost post = new BalloonPost();
                Checks.run(post, script);
                CHECKS.same("kind " + want, post.scriptErrorKind(), want);
                post.addGas(1);
                CHECKS.same("it stays until the next script", post.scriptErrorKind(), want);
                Checks.run(post, "street 8;");
                CHECKS.same("the next script has none", post.scriptErrorKind(), 0);
            });
        }
        READERS.test(kind, () -> {
            BalloonPost post = new BalloonPost();
            Checks.run(post, "street 7;");
            Checks.run(post, "oops");
            CHECKS.same("that of the latest script", post.scriptErrorKind(), 1);
        });
    }

    private static void scriptErrorOffset() {
        READERS.under("Promise 25");
        String offset = "Returns the offset of the error of the latest script, or NONE if scriptErrorKind() is 0.";
        READERS.test(offset, () -> CHECKS.same("no script was run", new BalloonPost().scriptErrorOffset(), -1));
        READERS.test(offset, () -> CHECKS.same("no error", Checks.after("street 8;").scriptErrorOffset(), -1));
        READERS.test(offset, () -> CHECKS.bad(1, "^oops"));
        READERS.test(offset, () -> CHECKS.bad(1, "street 8;" + " ".repeat(590) + "^x"));
        READERS.test(offset, () -> CHECKS.bad(1, "street 8;" + " ".repeat(588) + "gas^"));
        READERS.test(offset, () -> {
            BalloonPost post = new BalloonPost();
            Checks.run(post, "street 7;");
            Checks.run(post, "street 8;");
            CHECKS.same("the latest script had no error", post.scriptErrorOffset(), -1);
            Checks.run(post, "   oops");
            Checks.run(post, "street 8;oops");
            CHECKS.same("that of the latest script", post.scriptErrorOffset(), 9);
        });
    }

    // ---- promises 26 to 34

    private static void streetAndHour() {
        READERS.under("Promise 26");
        READERS.test("Returns the number of places.", () -> {
            CHECKS.same("the shortest street", Checks.after("street 8;").streetLength(), 8);
            CHECKS.same("the longest street", Checks.after("street 30;").streetLength(), 30);
            CHECKS.same("a new object", new BalloonPost().streetLength(), 12);
        });
        READERS.under("Promise 27");
        READERS.test("Returns the hour.", () -> {
            CHECKS.same("the first", Checks.after("street 8;").hour(), 0);
            CHECKS.same("the last", Checks.after("street 8;repeat 20(hours 24;hours 24;);hours 24;hours 15;").hour(), 999);
        });
        READERS.under("Promise 28");
        READERS.test("Returns the gas.", () -> {
            CHECKS.same("at first", Checks.after("street 8;").gas(), 50);
            CHECKS.same("all", Checks.after("street 8;repeat 4(gas 200;);gas 149;").gas(), 999);
            CHECKS.same("none", Checks.after("street 8;repeat 2(balloon 0 1 1;);fill 0 29;fill 1 21;").gas(), 0);
        });
    }

    private static void counts() {
        READERS.under("Promise 29");
        READERS.test("Returns the number of balloons.", () -> {
            CHECKS.same("none", Checks.after("street 8;").balloonCount(), 0);
            CHECKS.same("all", Checks.after("street 8;repeat 8(balloon 0 1 1;);").balloonCount(), 8);
        });
        READERS.under("Promise 30");
        READERS.test("Returns the number of parcels.", () -> {
            CHECKS.same("none", Checks.after("street 8;").parcelCount(), 0);
            CHECKS.same("all, and claimed ones count", Checks.after("street 8;repeat 16(parcel 1 0 1 5;claim 0 5;);").parcelCount(), 16);
        });
    }

    private static void roofAndTree() {
        READERS.under("Promise 31");
        READERS.namesNoBoundary("Returns the height of the roof at a place.");
        READERS.test("Returns the height.", () -> {
            BalloonPost post = Checks.after("street 30;roof 29 9;tree 0 9;");
            CHECKS.same("none", post.roof(0), 0);
            CHECKS.same("the highest, at the last place", post.roof(29), 9);
        });
        wrongPlace((post, place) -> post.roof(place));
        READERS.under("Promise 32");
        READERS.namesNoBoundary("Returns the height of the tree at a place.");
        READERS.test("Returns the height.", () -> {
            BalloonPost post = Checks.after("street 30;tree 29 9;roof 0 9;");
            CHECKS.same("none", post.tree(0), 0);
            CHECKS.same("the highest, at the last place", post.tree(29), 9);
        });
        wrongPlace((post, place) -> post.tree(place));
    }

    private static void gustAt() {
        READERS.under("Promise 33");
        READERS.namesNoBoundary("Returns the gust of an hour.");
        READERS.test("`hour`: 0 to 999", () -> CHECKS.takesRange("hour", 0, 999, hour -> new BalloonPost().gustAt(hour)));
        String gust = "Returns the gust.";
        READERS.test(gust, () -> {
            CHECKS.same("without gusts, hour 0", Checks.after("street 8;").gustAt(0), 0);
            CHECKS.same("without gusts, hour 999", Checks.after("street 8;").gustAt(999), 0);
        });
        READERS.test(gust, () -> {
            BalloonPost post = new BalloonPost();
            int[] hours = {0, 1, 2, 3, 997, 998, 999};
            int[] gusts = {2, 1, -1, 2, 1, -1, 2};
            for (int i = 0; i < hours.length; i++) {
                CHECKS.same("three gusts, hour " + hours[i], post.gustAt(hours[i]), gusts[i]);
            }
        });
        READERS.test(gust, () -> {
            BalloonPost post = Checks.after("street 8;repeat 11(gust east 1;);gust west 3;");
            CHECKS.same("12 gusts, hour 11", post.gustAt(11), -3);
            CHECKS.same("12 gusts, hour 12", post.gustAt(12), 1);
        });
        String wrong = "Throws `IllegalArgumentException` if `hour` is out of range";
        READERS.test(wrong, () -> CHECKS.refusesOutside("hour", 0, 999, ARGUMENT, hour -> new BalloonPost().gustAt(hour)));
        READERS.test(wrong, () -> CHECKS.refusesOutside("without gusts, hour", 0, 999, ARGUMENT, hour -> Checks.after("street 8;").gustAt(hour)));
    }

    private static void parcelsAt() {
        READERS.under("Promise 34");
        READERS.namesNoBoundary("Returns the parcels that lie at a place.");
        String set = "Returns the set of these parcels.";
        READERS.test(set, () -> CHECKS.same("none", Checks.after("street 8;").parcelsAt(0), 0));
        READERS.test(set, () -> {
            BalloonPost post = Checks.after("street 8;balloon 7 9 9;parcel 1 7 0 1;parcel 1 7 0 2;parcel 1 7 0 3;parcel 1 6 0 4;tie 1 0;claim 7 3;");
            CHECKS.same("neither a tied one nor a claimed one", post.parcelsAt(7), 1);
            CHECKS.same("the place to the west", post.parcelsAt(6), 8);
        });
        READERS.test(set, () -> CHECKS.same("the last parcel",
                Checks.after("street 8;repeat 15(parcel 1 7 0 1;claim 7 1;);parcel 1 7 0 1;").parcelsAt(7), 32768));
        wrongPlace((post, place) -> post.parcelsAt(place));
    }

    // ---- promises 35 to 42

    private static void placeAndLift() {
        READERS.under("Promise 35");
        READERS.namesNoBoundary("Returns the place of a balloon.");
        READERS.test("Returns the number of the place.", () -> {
            CHECKS.same("the first", Checks.after("street 30;balloon 0 9 9;").placeOf(0), 0);
            CHECKS.same("the last", Checks.after("street 30;balloon 29 9 9;").placeOf(0), 29);
        });
        wrongBalloon((post, balloon) -> post.placeOf(balloon));
        READERS.under("Promise 36");
        READERS.namesNoBoundary("Returns the lift of a balloon.");
        READERS.test("Returns the lift.", () -> {
            CHECKS.same("the smallest", Checks.after("street 8;balloon 0 1 9;").lift(0), 1);
            CHECKS.same("the greatest", Checks.after("street 8;balloon 0 30 9;").lift(0), 30);
        });
        wrongBalloon((post, balloon) -> post.lift(balloon));
    }

    private static void stringLoadHeight() {
        READERS.under("Promise 37");
        READERS.namesNoBoundary("Returns the length of the string of a balloon.");
        READERS.test("Returns the length.", () -> {
            CHECKS.same("the shortest", Checks.after("street 8;balloon 0 30 1;").stringLength(0), 1);
            CHECKS.same("the longest", Checks.after("street 8;balloon 0 1 9;").stringLength(0), 9);
        });
        wrongBalloon((post, balloon) -> post.stringLength(balloon));
        READERS.under("Promise 38");
        READERS.namesNoBoundary("Returns the load of a balloon.");
        READERS.test("Returns the load.", () -> {
            CHECKS.same("none", Checks.after("street 8;balloon 0 9 9;parcel 1 0 1 1;").load(0), 0);
            CHECKS.same("the greatest", Checks.after("street 8;balloon 0 30 9;parcel 7 0 1 1;parcel 7 0 1 2;parcel 7 0 1 3;parcel 8 0 1 4;tie 0 0;tie 1 0;"
                    + "tie 2 0;tie 3 0;").load(0), 29);
        });
        wrongBalloon((post, balloon) -> post.load(balloon));
        READERS.under("Promise 39");
        String height = "Returns the height of a balloon, whatever its state is.";
        READERS.test(height, () -> CHECKS.same("moored", Checks.after("street 8;balloon 0 9 9;parcel 8 0 7 5;tie 0 0;").height(0), 1));
        READERS.test(height, () -> CHECKS.same("flying", Checks.after("street 8;balloon 0 9 9;parcel 8 0 7 5;tie 0 0;launch 0;").height(0), 1));
        READERS.test(height, () -> CHECKS.same("caught", Checks.after(CAUGHT).height(0), 1));
        READERS.test("Returns the height.", () -> {
            CHECKS.same("the greatest", Checks.after("street 8;balloon 0 30 9;").height(0), 9);
            CHECKS.same("by the string", Checks.after("street 8;balloon 0 9 8;").height(0), 8);
            CHECKS.same("by the lift", Checks.after("street 8;balloon 0 8 9;").height(0), 8);
        });
        wrongBalloon((post, balloon) -> post.height(balloon));
    }

    private static void stateAndParcels() {
        READERS.under("Promise 40");
        READERS.namesNoBoundary("Returns the state of a balloon.");
        READERS.test("Returns MOORED, FLYING or CAUGHT.", () -> {
            CHECKS.same("added", Checks.after("street 8;balloon 0 1 1;").stateOf(0), BalloonPost.MOORED);
            CHECKS.same("launched", Checks.after("street 8;balloon 0 1 1;launch 0;").stateOf(0), BalloonPost.FLYING);
            CHECKS.same("in a tree", Checks.after(CAUGHT).stateOf(0), BalloonPost.CAUGHT);
            CHECKS.same("sunk", Checks.after("street 8;leak 1;balloon 0 1 1;launch 0;hours 1;").stateOf(0), BalloonPost.MOORED);
            CHECKS.same("freed", Checks.after(CAUGHT + "free 0;").stateOf(0), BalloonPost.MOORED);
            CHECKS.same("moored", Checks.after("street 8;balloon 0 1 1;launch 0;moor 0;").stateOf(0), BalloonPost.MOORED);
        });
        wrongBalloon((post, balloon) -> post.stateOf(balloon));
        READERS.under("Promise 41");
        READERS.namesNoBoundary("Returns the parcels that are tied to a balloon.");
        READERS.test("Returns the set of these parcels.", () -> {
            BalloonPost post = Checks.after("street 8;repeat 3(balloon 0 30 9;);repeat 11(parcel 1 0 1 1;claim 0 1;);parcel 1 0 1 1;parcel 1 0 1 2;parcel 1 0 1 3;"
                    + "parcel 1 0 1 4;parcel 1 0 1 5;tie 15 2;tie 12 2;tie 13 2;tie 14 2;tie 11 0;");
            CHECKS.same("one", post.parcelsOf(0), 2048);
            CHECKS.same("none", post.parcelsOf(1), 0);
            CHECKS.same("four, the last ones", post.parcelsOf(2), 61440);
        });
        wrongBalloon((post, balloon) -> post.parcelsOf(balloon));
    }

    private static void flyingBalloons() {
        READERS.under("Promise 42");
        String set = "Returns the set of the flying balloons.";
        READERS.test(set, () -> CHECKS.same("no balloons", Checks.after("street 8;").flyingBalloons(), 0));
        READERS.test(set, () -> CHECKS.same("no flying ones", Checks.after("street 8;balloon 0 9 9;").flyingBalloons(), 0));
        READERS.test(set, () -> CHECKS.same("not a caught one", Checks.after(CAUGHT).flyingBalloons(), 0));
        READERS.test(set, () -> CHECKS.same("the first and the last", Checks.after("street 8;repeat 8(balloon 0 9 9;);launch 7;launch 0;").flyingBalloons(), 129));
    }

    // ---- promises 43 to 49

    private static void weightDestinationState() {
        READERS.under("Promise 43");
        READERS.namesNoBoundary("Returns the weight of a parcel.");
        READERS.test("Returns the weight.", () -> {
            CHECKS.same("the lightest", Checks.after("street 8;parcel 1 0 1 1;").weight(0), 1);
            CHECKS.same("the heaviest, claimed", Checks.after("street 8;parcel 9 0 1 1;claim 0 1;").weight(0), 9);
        });
        wrongParcel((post, parcel) -> post.weight(parcel));
        READERS.under("Promise 44");
        READERS.namesNoBoundary("Returns the destination of a parcel.");
        READERS.test("Returns the number of the place.", () -> {
            CHECKS.same("the first", Checks.after("street 30;parcel 1 29 0 1;").destination(0), 0);
            CHECKS.same("the last, claimed", Checks.after("street 30;parcel 1 0 29 1;claim 0 1;").destination(0), 29);
        });
        wrongParcel((post, parcel) -> post.destination(parcel));
        READERS.under("Promise 45");
        READERS.namesNoBoundary("Returns the state of a parcel.");
        READERS.test("Returns LYING, TIED or CLAIMED.", () -> {
            CHECKS.same("added", Checks.after("street 8;parcel 1 0 1 1;").parcelState(0), BalloonPost.LYING);
            CHECKS.same("tied", Checks.after(CAUGHT).parcelState(0), BalloonPost.TIED);
            CHECKS.same("fallen off", Checks.after(CAUGHT + "free 0;").parcelState(0), BalloonPost.LYING);
            CHECKS.same("claimed", Checks.after(CAUGHT + "free 0;claim 1 5;").parcelState(0), BalloonPost.CLAIMED);
        });
        wrongParcel((post, parcel) -> post.parcelState(parcel));
    }

    private static void balloonOfAndPlace() {
        READERS.under("Promise 46");
        READERS.namesNoBoundary("Returns the balloon to which a parcel is tied.");
        String balloon = "Returns the number of the balloon, or NONE.";
        READERS.test(balloon, () -> CHECKS.same("the first", Checks.after(CAUGHT).balloonOf(0), 0));
        READERS.test(balloon, () -> CHECKS.same("the last", Checks.after("street 8;repeat 8(balloon 0 9 9;);parcel 1 0 1 1;tie 0 7;").balloonOf(0), 7));
        READERS.test(balloon, () -> CHECKS.same("it never was", Checks.after("street 8;balloon 0 9 9;parcel 1 0 1 1;").balloonOf(0), -1));
        READERS.test(balloon, () -> CHECKS.same("untied", Checks.after("street 8;balloon 0 9 9;parcel 1 0 1 1;tie 0 0;untie 0;").balloonOf(0), -1));
        READERS.test(balloon, () -> CHECKS.same("fallen off", Checks.after(CAUGHT + "free 0;").balloonOf(0), -1));
        READERS.test(balloon, () -> CHECKS.same("claimed", Checks.after(CAUGHT + "free 0;claim 1 5;").balloonOf(0), -1));
        wrongParcel((post, parcel) -> post.balloonOf(parcel));
        READERS.under("Promise 47");
        READERS.namesNoBoundary("Returns the place of a parcel.");
        String place = "Returns the number of the place, or NONE if it is claimed.";
        READERS.test(place, () -> CHECKS.same("the first", Checks.after("street 30;parcel 1 0 29 1;").parcelPlace(0), 0));
        READERS.test(place, () -> CHECKS.same("the last", Checks.after("street 30;parcel 1 29 0 1;").parcelPlace(0), 29));
        READERS.test(place, () -> CHECKS.same("that of its balloon", Checks.after(CAUGHT).parcelPlace(0), 1));
        READERS.test(place, () -> CHECKS.same("where it fell off", Checks.after(CAUGHT + "free 0;").parcelPlace(0), 1));
        READERS.test(place, () -> CHECKS.same("claimed", Checks.after("street 8;parcel 1 0 1 1;claim 0 1;").parcelPlace(0), -1));
        wrongParcel((post, parcel) -> post.parcelPlace(parcel));
    }

    private static void fareAndNumber() {
        READERS.under("Promise 48");
        READERS.namesNoBoundary("Returns the fare of a parcel.");
        READERS.test("Returns the fare.", () -> {
            CHECKS.same("the smallest", Checks.after("street 30;parcel 1 1 0 1;").fare(0), 1);
            CHECKS.same("the greatest", Checks.after("street 30;parcel 9 0 29 1;").fare(0), 261);
            CHECKS.same("claimed elsewhere", Checks.after("street 30;parcel 9 29 0 1;claim 29 1;").fare(0), 261);
            CHECKS.same("half-way", Checks.after(CAUGHT).fare(0), 56);
            CHECKS.same("between two places in the middle", Checks.after("street 30;parcel 9 13 14 1;").fare(0), 9);
        });
        wrongParcel((post, parcel) -> post.fare(parcel));
        READERS.under("Promise 49");
        READERS.test("Returns the parcel with a number that is not claimed.", () -> {
            BalloonPost post = Checks.after("street 8;parcel 1 0 1 5;claim 0 5;parcel 1 0 1 5;claim 0 5;");
            CHECKS.same("both are claimed", post.parcelWith(5), -1);
            post.addParcel(1, 0, 1, 5);
            CHECKS.same("the third one is not", post.parcelWith(5), 2);
        });
        READERS.test("`number`: any number", () -> {
            for (int number : new int[] {Integer.MIN_VALUE, -1, 100, 1000, Integer.MAX_VALUE}) {
                CHECKS.same("parcelWith " + number, new BalloonPost().parcelWith(number), -1);
            }
        });
        String none = "Returns the number of the parcel, or NONE if there is none.";
        READERS.test(none, () -> CHECKS.same("no parcels", Checks.after("street 8;").parcelWith(0), -1));
        READERS.test(none, () -> {
            BalloonPost post = Checks.after("street 8;balloon 0 9 9;parcel 1 0 1 99;parcel 1 0 1 0;tie 1 0;");
            CHECKS.same("the greatest number", post.parcelWith(99), 0);
            CHECKS.same("the smallest number, of a tied one", post.parcelWith(0), 1);
            CHECKS.same("a number between them", post.parcelWith(1), -1);
            CHECKS.same("98", post.parcelWith(98), -1);
        });
    }

    // ---- promises 50 to 53

    private static void whyNoTie() {
        READERS.under("Promise 50");
        READERS.namesNoBoundary("Returns why tying would be refused.");
        String reason = "Returns ALLOWED or the reason.";
        READERS.test(reason, () -> CHECKS.same("allowed", new BalloonPost().whyNoTie(3, 2), BalloonPost.ALLOWED));
        READERS.test(reason, () -> CHECKS.same("tied", new BalloonPost().whyNoTie(2, 2), BalloonPost.NOT_LYING));
        READERS.test(reason, () -> CHECKS.same("flying", new BalloonPost().whyNoTie(3, 0), BalloonPost.NOT_MOORED));
        READERS.test(reason, () -> CHECKS.same("elsewhere", new BalloonPost().whyNoTie(3, 1), BalloonPost.ELSEWHERE));
        READERS.test(reason, () -> {
            BalloonPost post = Checks.after("street 8;balloon 0 30 9;parcel 1 0 1 1;parcel 1 0 1 2;parcel 1 0 1 3;parcel 1 0 1 4;parcel 1 0 1 5;tie 0 0;"
                    + "tie 1 0;tie 2 0;");
            CHECKS.same("three knots", post.whyNoTie(4, 0), BalloonPost.ALLOWED);
            post.tie(3, 0);
            CHECKS.same("four knots", post.whyNoTie(4, 0), BalloonPost.NO_KNOT);
        });
        READERS.test(reason, () -> {
            BalloonPost post = Checks.after("street 8;balloon 0 9 9;parcel 9 0 1 1;parcel 8 0 1 2;");
            CHECKS.same("9 of 9", post.whyNoTie(0, 0), BalloonPost.TOO_HEAVY);
            CHECKS.same("8 of 9", post.whyNoTie(1, 0), BalloonPost.ALLOWED);
        });
        READERS.test(reason, () -> {
            BalloonPost post = new BalloonPost();
            post.whyNoTie(3, 2);
            CHECKS.same("asking ties nothing", post.load(2), 0);
            CHECKS.same("and is no change", post.undoCount(), 0);
        });
        READERS.test(NEITHER, () -> CHECKS.needsIndex("parcel", BalloonPost::parcelCount, (post, parcel) -> post.whyNoTie(parcel, 0)));
        READERS.test(NEITHER, () -> CHECKS.needsIndex("balloon", BalloonPost::balloonCount, (post, balloon) -> post.whyNoTie(0, balloon)));
    }

    private static void whyNoLaunch() {
        READERS.under("Promise 51");
        READERS.namesNoBoundary("Returns why launching would be refused.");
        String reason = "Returns ALLOWED or the reason.";
        READERS.test(reason, () -> CHECKS.same("allowed", new BalloonPost().whyNoLaunch(1), BalloonPost.ALLOWED));
        READERS.test(reason, () -> CHECKS.same("flying", new BalloonPost().whyNoLaunch(0), BalloonPost.NOT_MOORED));
        READERS.test(reason, () -> CHECKS.same("caught under its tree", Checks.after(CAUGHT).whyNoLaunch(0), BalloonPost.NOT_MOORED));
        READERS.test(reason, () -> {
            CHECKS.same("a lower tree", Checks.after("street 8;tree 0 8;balloon 0 30 9;").whyNoLaunch(0), BalloonPost.ALLOWED);
            CHECKS.same("a tree of its height", Checks.after("street 8;tree 0 9;balloon 0 30 9;").whyNoLaunch(0), BalloonPost.UNDER_TREE);
            CHECKS.same("a higher tree", Checks.after("street 8;tree 0 9;balloon 0 30 8;").whyNoLaunch(0), BalloonPost.UNDER_TREE);
            CHECKS.same("a roof does not matter", Checks.after("street 8;roof 0 9;balloon 0 1 1;").whyNoLaunch(0), BalloonPost.ALLOWED);
        });
        wrongBalloon((post, balloon) -> post.whyNoLaunch(balloon));
    }

    private static void heaviestFor() {
        READERS.under("Promise 52");
        READERS.test("Returns the greatest weight of a parcel that a balloon could carry in addition to its load.", () -> {
            BalloonPost post = Checks.after("street 8;balloon 0 9 9;parcel 5 0 1 1;parcel 3 0 1 2;parcel 4 0 1 3;tie 0 0;");
            CHECKS.same("a lift of 9, a load of 5", post.heaviestFor(0), 3);
            CHECKS.same("as heavy a parcel can be tied", post.whyNoTie(1, 0), BalloonPost.ALLOWED);
            CHECKS.same("a heavier one can not", post.whyNoTie(2, 0), BalloonPost.TOO_HEAVY);
        });
        String weight = "Returns the weight, 0 to 9;";
        int[] lifts = {1, 2, 3, 9, 10, 11, 30};
        int[] weights = {0, 1, 2, 8, 9, 9, 9};
        for (int i = 0; i < lifts.length; i++) {
            int lift = lifts[i];
            int want = weights[i];
            READERS.test(weight, () -> CHECKS.same("a lift of " + lift, Checks.after("street 8;balloon 0 " + lift + " 1;").heaviestFor(0), want));
        }
        READERS.test(weight, () -> CHECKS.same("a load 1 less than the lift",
                Checks.after("street 8;balloon 0 9 9;parcel 8 0 1 1;tie 0 0;").heaviestFor(0), 0));
        READERS.test("0 also if 4 parcels are tied to it.", () -> {
            BalloonPost post = Checks.after("street 8;balloon 0 30 9;parcel 1 0 1 1;parcel 1 0 1 2;parcel 1 0 1 3;parcel 1 0 1 4;tie 0 0;tie 1 0;tie 2 0;");
            CHECKS.same("3 parcels", post.heaviestFor(0), 9);
            post.tie(3, 0);
            CHECKS.same("4 parcels", post.heaviestFor(0), 0);
        });
        wrongBalloon((post, balloon) -> post.heaviestFor(balloon));
    }

    private static void bestBalloon() {
        READERS.under("Promise 53");
        READERS.namesNoBoundary("Returns the balloon that a parcel would load best.");
        String best = "Returns the balloon for which tying would not be refused and whose lift minus its load is smallest, of several the one with the "
                + "smallest number;";
        READERS.test(best, () -> CHECKS.same("the first of two",
                Checks.after("street 8;balloon 0 9 9;balloon 0 8 9;balloon 0 8 9;parcel 1 0 1 1;").bestBalloon(0), 1));
        READERS.test(best, () -> CHECKS.same("the first of all", Checks.after("street 8;repeat 8(balloon 0 8 9;);parcel 1 0 1 1;").bestBalloon(0), 0));
        READERS.test(best, () -> CHECKS.same("the last of all",
                Checks.after("street 8;repeat 7(balloon 0 8 9;);balloon 0 7 9;parcel 1 0 1 1;").bestBalloon(0), 7));
        READERS.test(best, () -> {
            BalloonPost post = Checks.after("street 8;balloon 0 9 9;balloon 0 2 9;");
            CHECKS.same("not one of the street before", Checks.run(post, "street 8;balloon 0 9 9;parcel 1 0 1 1;"), 1);
            CHECKS.same("bestBalloon", post.bestBalloon(0), 0);
        });
        READERS.test(best, () -> CHECKS.same("the last one, tighter than the first",
                Checks.after("street 8;balloon 0 8 9;balloon 0 8 9;balloon 0 7 9;parcel 1 0 1 1;").bestBalloon(0), 2));
        READERS.test(best, () -> CHECKS.same("the lift minus the load, not the lift",
                Checks.after("street 8;balloon 0 9 9;balloon 0 20 9;parcel 9 0 1 1;parcel 5 0 1 2;parcel 1 0 1 3;tie 0 1;tie 1 1;").bestBalloon(2), 1));
        READERS.test(best, () -> CHECKS.same("not one that is too tight by 1",
                Checks.after("street 8;balloon 0 5 9;balloon 0 6 9;parcel 5 0 1 1;").bestBalloon(0), 1));
        READERS.test(best, () -> CHECKS.same("not a flying one", Checks.after("street 8;balloon 0 8 9;balloon 0 9 9;launch 0;parcel 5 0 1 1;").bestBalloon(0), 1));
        READERS.test(best, () -> CHECKS.same("not one elsewhere", Checks.after("street 8;balloon 1 8 9;balloon 0 9 9;parcel 5 0 1 1;").bestBalloon(0), 1));
        READERS.test(best, () -> CHECKS.same("not one without a knot", Checks.after("street 8;balloon 0 9 9;balloon 0 30 9;parcel 1 0 1 1;parcel 1 0 1 2;"
                + "parcel 1 0 1 3;parcel 1 0 1 4;parcel 1 0 1 5;tie 0 0;tie 1 0;tie 2 0;tie 3 0;").bestBalloon(4), 1));
        String none = "NONE if there is none.";
        READERS.test(none, () -> CHECKS.same("no balloons", Checks.after("street 8;parcel 5 0 1 1;").bestBalloon(0), -1));
        READERS.test(none, () -> CHECKS.same("too heavy", Checks.after("street 8;balloon 0 5 9;parcel 5 0 1 1;").bestBalloon(0), -1));
        READERS.test(none, () -> CHECKS.same("a tied parcel", Checks.after("street 8;balloon 0 9 9;balloon 0 9 9;parcel 5 0 1 1;tie 0 0;").bestBalloon(0), -1));
        READERS.test(none, () -> CHECKS.same("a claimed parcel", Checks.after("street 8;balloon 0 9 9;parcel 5 0 1 1;claim 0 1;").bestBalloon(0), -1));
        wrongParcel((post, parcel) -> post.bestBalloon(parcel));
    }

    // ---- promises 54 to 57

    private static void placeAfter() {
        READERS.under("Promise 54");
        READERS.test("Returns the place of a balloon after some hours.", () -> {
            BalloonPost post = new BalloonPost();
            for (int hours = 0; hours <= 48; hours++) {
                BalloonPost later = new BalloonPost();
                for (int passed = 0; passed < hours; passed++) {
                    later.passHours(1);
                }
                CHECKS.same("after " + hours, post.placeAfter(0, hours), later.placeOf(0));
            }
            CHECKS.same("no hours have passed", post.hour(), 1);
        });
        READERS.test("`hours`: 0 to 48", () -> CHECKS.takesRange("hours", 0, 48, hours -> new BalloonPost().placeAfter(0, hours)));
        String place = "Returns the number of the place.";
        String far = "street 30;leak 9;repeat 5(gust east 0;);gust east 3;balloon 0 30 9;launch 0;";
        READERS.test(place, () -> CHECKS.same("0 hours: where it is", Checks.after(far).placeAfter(0, 0), 0));
        READERS.test(place, () -> CHECKS.same("47 hours", Checks.after(far).placeAfter(0, 47), 21));
        READERS.test(place, () -> CHECKS.same("48 hours", Checks.after(far).placeAfter(0, 48), 24));
        READERS.test(place, () -> CHECKS.same("the end of the street", Checks.after("street 8;gust east 3;balloon 0 30 9;launch 0;").placeAfter(0, 48), 7));
        READERS.test(place, () -> CHECKS.same("a moored one stays", Checks.after("street 8;gust east 3;balloon 0 30 9;").placeAfter(0, 48), 0));
        READERS.test(place, () -> CHECKS.same("a caught one stays", Checks.after(CAUGHT).placeAfter(0, 48), 1));
        READERS.test(place, () -> CHECKS.same("a sunk one stays", Checks.after("street 8;gust east 1;leak 1;balloon 0 3 9;launch 0;").placeAfter(0, 48), 3));
        wrongBalloon((post, balloon) -> post.placeAfter(balloon, 48));
        READERS.test(WRONG_HOURS, () -> CHECKS.refusesOutside("hours", 0, 48, ARGUMENT, hours -> new BalloonPost().placeAfter(0, hours)));
    }

    private static void stateAfter() {
        READERS.under("Promise 55");
        READERS.test("Returns the state of a balloon after some hours.", () -> {
            BalloonPost post = new BalloonPost();
            for (int hours = 0; hours <= 48; hours++) {
                BalloonPost later = new BalloonPost();
                for (int passed = 0; passed < hours; passed++) {
                    later.passHours(1);
                }
                CHECKS.same("after " + hours, post.stateAfter(0, hours), later.stateOf(0));
            }
            CHECKS.same("no hours have passed", post.hour(), 1);
        });
        READERS.test("`hours`: 0 to 48", () -> CHECKS.takesRange("hours", 0, 48, hours -> new BalloonPost().stateAfter(0, hours)));
        String state = "Returns MOORED, FLYING or CAUGHT.";
        READERS.test(state, () -> CHECKS.same("0 hours: as it is", new BalloonPost().stateAfter(0, 0), BalloonPost.FLYING));
        READERS.test(state, () -> {
            BalloonPost post = Checks.after("street 8;leak 8;balloon 0 6 9;launch 0;");
            CHECKS.same("47 hours", post.stateAfter(0, 47), BalloonPost.FLYING);
            CHECKS.same("48 hours: the sixth leak", post.stateAfter(0, 48), BalloonPost.MOORED);
        });
        READERS.test(state, () -> {
            BalloonPost post = Checks.after("street 8;leak 9;gust east 1;tree 3 9;balloon 0 9 9;launch 0;");
            CHECKS.same("2 hours", post.stateAfter(0, 2), BalloonPost.FLYING);
            CHECKS.same("3 hours: the tree", post.stateAfter(0, 3), BalloonPost.CAUGHT);
            CHECKS.same("48 hours", post.stateAfter(0, 48), BalloonPost.CAUGHT);
        });
        READERS.test(state, () -> CHECKS.same("a moored one", Checks.after("street 8;balloon 0 1 1;").stateAfter(0, 48), BalloonPost.MOORED));
        wrongBalloon((post, balloon) -> post.stateAfter(balloon, 48));
        READERS.test(WRONG_HOURS, () -> CHECKS.refusesOutside("hours", 0, 48, ARGUMENT, hours -> new BalloonPost().stateAfter(0, hours)));
    }

    private static void hoursToSink() {
        READERS.under("Promise 56");
        READERS.namesNoBoundary("Returns after how many hours a flying balloon sinks.");
        String hours = "Returns the smallest number of hours, or NONE if it is not flying or does not sink within 200 hours.";
        READERS.test(hours, () -> CHECKS.same("a lift of 1", Checks.after("street 8;leak 1;balloon 0 1 1;launch 0;").hoursToSink(0), 1));
        READERS.test(hours, () -> CHECKS.same("a lift of 2", Checks.after("street 8;leak 1;balloon 0 2 1;launch 0;").hoursToSink(0), 2));
        READERS.test(hours, () -> CHECKS.same("a load 1 less than the lift",
                Checks.after("street 8;leak 1;balloon 0 30 1;parcel 9 0 1 1;parcel 9 0 1 2;parcel 9 0 1 3;parcel 2 0 1 4;tie 0 0;tie 1 0;tie 2 0;tie 3 0;"
                        + "launch 0;").hoursToSink(0), 1));
        READERS.test(hours, () -> CHECKS.same("the hour that it is counts", Checks.after("street 8;hours 8;leak 9;balloon 0 1 1;launch 0;").hoursToSink(0), 1));
        READERS.test(hours, () -> CHECKS.same("199 hours", Checks.after("street 8;hours 1;leak 8;balloon 0 25 1;launch 0;").hoursToSink(0), 199));
        READERS.test(hours, () -> CHECKS.same("200 hours", Checks.after("street 8;leak 8;balloon 0 25 1;launch 0;").hoursToSink(0), 200));
        READERS.test(hours, () -> CHECKS.same("201 hours", Checks.after("street 8;hours 7;leak 8;balloon 0 26 1;launch 0;").hoursToSink(0), -1));
        READERS.test(hours, () -> CHECKS.same("the longest of all", Checks.after("street 8;leak 9;balloon 0 30 1;launch 0;").hoursToSink(0), -1));
        READERS.test(hours, () -> CHECKS.same("a moored one", Checks.after("street 8;leak 1;balloon 0 1 1;").hoursToSink(0), -1));
        READERS.test(hours, () -> CHECKS.same("a caught one", Checks.after(CAUGHT).hoursToSink(0), -1));
        READERS.test(hours, () -> CHECKS.same("one that a tree will catch",
                Checks.after("street 8;leak 9;gust east 1;tree 7 9;balloon 0 9 9;launch 0;").hoursToSink(0), -1));
        READERS.test(hours, () -> CHECKS.same("one that sinks in front of the tree",
                Checks.after("street 8;leak 7;gust east 1;tree 7 9;roof 7 9;balloon 0 1 1;launch 0;").hoursToSink(0), 7));
        wrongBalloon((post, balloon) -> post.hoursToSink(balloon));
    }

    private static void hoursToDestination() {
        READERS.under("Promise 57");
        String tiedOrLying = "Returns after how many hours a parcel is at its destination for the first time, tied or lying.";
        String carried = "street 30;leak 9;gust east 1;balloon 0 30 9;parcel 1 0 3 1;tie 0 0;launch 0;";
        READERS.test(tiedOrLying, () -> CHECKS.same("tied", Checks.after(carried).hoursToDestination(0), 3));
        READERS.test(tiedOrLying, () -> CHECKS.same("lying, as it falls off there",
                Checks.after("street 8;leak 3;gust east 1;balloon 0 2 9;parcel 1 0 3 1;tie 0 0;launch 0;").hoursToDestination(0), 3));
        READERS.test(tiedOrLying, () -> CHECKS.same("it falls off in front of it",
                Checks.after("street 8;leak 2;gust east 1;balloon 0 2 9;parcel 1 0 3 1;tie 0 0;launch 0;").hoursToDestination(0), -1));
        READERS.test(tiedOrLying, () -> CHECKS.same("the first time of two",
                Checks.after("street 8;leak 9;gust east 1;gust west 1;balloon 0 30 9;parcel 1 0 1 1;tie 0 0;launch 0;").hoursToDestination(0), 1));
        READERS.test(tiedOrLying, () -> CHECKS.same("caught there",
                Checks.after("street 8;gust east 1;tree 1 9;balloon 0 30 9;parcel 1 0 1 1;tie 0 0;launch 0;").hoursToDestination(0), 1));
        READERS.test(tiedOrLying, () -> CHECKS.same("caught in front of it",
                Checks.after("street 8;gust east 1;tree 1 9;balloon 0 30 9;parcel 1 0 2 1;tie 0 0;launch 0;").hoursToDestination(0), -1));
        String hours = "Returns the smallest number of hours, 0 if it is there now, or NONE if it is not there within 48 hours or is claimed.";
        READERS.test(hours, () -> CHECKS.same("there now, tied to a flying one", Checks.after(carried + "hours 3;").hoursToDestination(0), 0));
        READERS.test(hours, () -> CHECKS.same("there now, tied to a moored one", Checks.after(carried + "hours 3;moor 0;").hoursToDestination(0), 0));
        READERS.test(hours, () -> CHECKS.same("there now, lying", Checks.after(carried + "hours 3;moor 0;untie 0;").hoursToDestination(0), 0));
        READERS.test(hours, () -> CHECKS.same("claimed there", Checks.after(carried + "hours 3;moor 0;untie 0;claim 3 1;").hoursToDestination(0), -1));
        READERS.test(hours, () -> CHECKS.same("claimed elsewhere", Checks.after("street 8;parcel 1 0 1 1;claim 0 1;").hoursToDestination(0), -1));
        READERS.test(hours, () -> CHECKS.same("lying elsewhere", Checks.after("street 8;parcel 1 0 1 1;").hoursToDestination(0), -1));
        READERS.test(hours, () -> CHECKS.same("tied to a moored one elsewhere",
                Checks.after("street 8;gust east 1;balloon 0 9 9;parcel 1 0 1 1;tie 0 0;").hoursToDestination(0), -1));
        String slow = "street 30;leak 9;repeat 5(gust east 0;);gust east 3;balloon 0 30 9;parcel 1 0 24 1;tie 0 0;launch 0;";
        READERS.test(hours, () -> CHECKS.same("48 hours", Checks.after(slow).hoursToDestination(0), 48));
        READERS.test(hours, () -> CHECKS.same("47 hours", Checks.after(slow + "hours 1;").hoursToDestination(0), 47));
        READERS.test(hours, () -> CHECKS.same("49 hours",
                Checks.after(slow.replace("0 24 1", "0 27 1").replace("leak 9;", "leak 9;hours 5;")).hoursToDestination(0), -1));
        wrongParcel((post, parcel) -> post.hoursToDestination(parcel));
    }

    // ---- promises 58 to 62

    private static void takingsAndDelivered() {
        String head = "street 8;gust east 1;balloon 0 30 9;parcel 2 0 1 1;parcel 3 0 1 2;parcel 4 0 2 3;tie 0 0;tie 1 0;tie 2 0;launch 0;hours 1;moor 0;"
                + "untie 0;untie 1;untie 2;";
        READERS.under("Promise 58");
        String sum = "Returns the sum of what was paid.";
        READERS.test(sum, () -> CHECKS.same("nothing", Checks.after(head).takings(), 0));
        READERS.test(sum, () -> CHECKS.same("two of them", Checks.after(head + "claim 1 1;claim 1 2;").takings(), 5));
        READERS.test(sum, () -> CHECKS.same("a claim elsewhere", Checks.after(head + "claim 1 3;").takings(), 0));
        READERS.under("Promise 59");
        String number = "Returns the number of parcels that were delivered.";
        READERS.test(number, () -> CHECKS.same("none", Checks.after(head).deliveredCount(), 0));
        READERS.test(number, () -> CHECKS.same("two of them", Checks.after(head + "claim 1 1;claim 1 2;").deliveredCount(), 2));
        READERS.test(number, () -> CHECKS.same("a claim elsewhere", Checks.after(head + "claim 1 3;").deliveredCount(), 0));
    }

    private static void meanLift() {
        READERS.under("Promise 60");
        String mean = "Returns the sum of the lifts of all balloons divided by their number, both converted to double;";
        READERS.test(mean, () -> CHECKS.sameDouble("one", Checks.after("street 8;balloon 0 1 1;").meanLift(), 1.0));
        READERS.test(mean, () -> CHECKS.sameDouble("not cut off", Checks.after("street 8;balloon 0 1 1;balloon 0 2 1;").meanLift(), 1.5));
        READERS.test(mean, () -> CHECKS.sameDouble("a third, as a double",
                Checks.after("street 8;repeat 2(balloon 0 1 1;);balloon 0 2 1;").meanLift(), 4.0 / 3.0));
        READERS.test(mean, () -> CHECKS.sameDouble("8, the greatest", Checks.after("street 8;repeat 8(balloon 0 30 1;);").meanLift(), 30.0));
        READERS.test("0.0 without balloons.", () -> CHECKS.sameDouble("none", Checks.after("street 8;").meanLift(), 0.0));
    }

    private static void claimedShare() {
        READERS.under("Promise 61");
        String share = "Returns the number of claimed parcels divided by the number of parcels, both converted to float;";
        READERS.test(share, () -> CHECKS.sameDouble("none of one", Checks.after("street 8;parcel 1 0 1 1;").claimedShare(), 0.0f));
        READERS.test(share, () -> CHECKS.sameDouble("all of one", Checks.after("street 8;parcel 1 0 1 1;claim 0 1;").claimedShare(), 1.0f));
        READERS.test(share, () -> CHECKS.sameDouble("a third, as a float",
                Checks.after("street 8;parcel 1 0 1 1;parcel 1 0 1 2;parcel 1 0 1 3;claim 0 2;").claimedShare(), 1.0f / 3.0f));
        READERS.test(share, () -> CHECKS.sameDouble("15 of 16",
                Checks.after("street 8;repeat 15(parcel 1 0 1 1;claim 0 1;);parcel 1 0 1 1;").claimedShare(), 0.9375f));
        READERS.test("0.0f without parcels.", () -> CHECKS.sameDouble("none", Checks.after("street 8;").claimedShare(), 0.0f));
    }

    /** No call can bring a violation about: each kind is tried at the edge where it would come. */
    private static void violations() {
        READERS.under("Promise 62");
        READERS.test("Returns the number of violations:", () -> CHECKS.same("a new object", new BalloonPost().violations(), 0));
        READERS.test("balloons whose load is not less than their lift or to which more than 4 parcels are tied;", () -> {
            BalloonPost post = Checks.after("street 8;leak 1;balloon 0 9 9;parcel 2 0 1 1;parcel 2 0 1 2;parcel 2 0 1 3;parcel 2 0 1 4;tie 0 0;tie 1 0;tie 2 0;"
                    + "tie 3 0;");
            CHECKS.same("a load of 8, a lift of 9, 4 parcels", post.violations(), 0);
            post.launch(0);
            post.passHours(1);
            CHECKS.same("a load of 6, a lift of 8", post.violations(), 0);
        });
        READERS.test("pairs of parcels that are not claimed and have the same number;", () -> {
            BalloonPost post = Checks.after("street 8;repeat 15(parcel 1 0 1 1;claim 0 1;);parcel 1 0 1 1;");
            CHECKS.same("16 with the same number, all but one claimed", post.violations(), 0);
        });
        String difference = "and the difference, without its sign, of the lifts of all balloons as they were added plus all gas that was filled in, and "
                + "the lifts of all balloons plus what they lost;";
        READERS.test(difference, () -> CHECKS.same("no balloons", Checks.after("street 8;").violations(), 0));
        READERS.test(difference, () -> CHECKS.same("filled", Checks.after("street 8;balloon 0 1 1;fill 0 29;").violations(), 0));
        READERS.test(difference, () -> CHECKS.same("leaked to 1 and sunk", Checks.after("street 8;leak 1;balloon 0 3 9;launch 0;hours 9;").violations(), 0));
        for (int lift = 1; lift <= 4; lift++) {
            String script = "street 8;leak 9;tree 1 9;gust east 1;balloon 0 " + lift + " 9;launch 0;hours 1;free 0;";
            READERS.test(difference, () -> CHECKS.same("freed", Checks.after(script).violations(), 0));
        }
        READERS.test(difference, () -> {
            BalloonPost post = Checks.after("street 8;leak 1;balloon 0 9 9;launch 0;hours 3;");
            post.saveSnapshot();
            post.passHours(2);
            post.moor(0);
            post.fill(0, 5);
            post.undo();
            CHECKS.same("undone", post.violations(), 0);
            post.restoreSnapshot();
            CHECKS.same("restored", post.violations(), 0);
            Checks.run(post, "street 8;balloon 0 5 5;");
            CHECKS.same("another script", post.violations(), 0);
        });
        READERS.test("it is always 0.", () -> {
            BalloonPost post = new BalloonPost();
            for (int i = 0; i < 100; i++) {
                post.passHours(1);
                CHECKS.same("hour " + i, post.violations(), 0);
            }
        });
    }

    // ---- promises 63 and 64

    private static String reportOf(BalloonPost post) {
        StringBuilder report = new StringBuilder();
        int length = post.writeStreet();
        for (int i = 0; i < length; i++) {
            report.append((char) post.reportByte(i));
        }
        return report.toString();
    }

    private static void writeStreet() {
        READERS.under("Promise 63");
        String length = "Returns the length in bytes of the report that is written, in place of the previous report:";
        READERS.test(length, () -> CHECKS.same("the shortest", Checks.after("street 8;").writeStreet(), 8));
        READERS.test(length, () -> CHECKS.same("the longest", Checks.after("street 30;").writeStreet(), 30));
        READERS.test(length, () -> {
            BalloonPost post = Checks.after("street 30;balloon 29 1 1;");
            post.writeStreet();
            Checks.run(post, "street 8;");
            CHECKS.same("the report stays until the next one", post.reportByte(29), '0');
            post.writeStreet();
            CHECKS.same("the last byte of the shorter one", post.reportByte(7), '.');
            CHECKS.same("nothing is left of the longer one", post.reportByte(8), -1);
            CHECKS.same("nothing is left of the longer one", post.reportByte(29), -1);
        });
        READERS.test("for each place a byte:", () -> CHECKS.sameText("report", reportOf(Checks.after("street 8;roof 0 1;tree 7 1;")), "r......t"));
        String digit = "the digit of the smallest number of a balloon there;";
        READERS.test(digit, () -> CHECKS.sameText("all eight", reportOf(Checks.after("street 8;balloon 7 1 1;balloon 6 1 1;balloon 5 1 1;balloon 4 1 1;"
                + "balloon 3 1 1;balloon 2 1 1;balloon 1 1 1;balloon 0 1 1;")), "76543210"));
        READERS.test(digit, () -> CHECKS.sameText("several", reportOf(Checks.after("street 8;balloon 1 1 1;repeat 7(balloon 7 1 1;);")), ".0.....1"));
        READERS.test(digit, () -> CHECKS.sameText("a balloon over everything else",
                reportOf(Checks.after("street 8;balloon 7 1 1;parcel 1 7 0 1;tree 7 9;roof 7 9;")), ".......0"));
        READERS.test(digit, () -> {
            CHECKS.sameText("flying", reportOf(Checks.after("street 8;balloon 1 1 1;launch 0;")), ".0......");
            CHECKS.sameText("caught", reportOf(Checks.after(CAUGHT)), ".0......");
        });
        String parcel = "otherwise p (byte 112) if a parcel lies there;";
        READERS.test(parcel, () -> CHECKS.sameText("over a tree and a roof", reportOf(Checks.after("street 8;parcel 1 7 0 1;tree 7 9;roof 7 9;")), ".......p"));
        READERS.test(parcel, () -> CHECKS.sameText("a claimed one lies nowhere", reportOf(Checks.after("street 8;parcel 1 7 0 1;claim 7 1;")), "........"));
        READERS.test(parcel, () -> CHECKS.sameText("the sixteenth",
                reportOf(Checks.after("street 8;repeat 15(parcel 1 7 0 1;claim 7 1;);parcel 1 7 0 1;")), ".......p"));
        READERS.test(parcel, () -> CHECKS.sameText("a tied one went with its balloon", reportOf(Checks.after("street 8;gust east 1;balloon 0 9 9;parcel 1 0 7 1;"
                + "tie 0 0;launch 0;hours 1;")), ".0......"));
        READERS.test("otherwise t (byte 116) if the tree is higher than 0;", () -> CHECKS.sameText("trees of 0, 1 and 9, over a roof",
                reportOf(Checks.after("street 8;tree 0 0;tree 1 1;tree 2 9;roof 2 9;")), ".tt....."));
        READERS.test("otherwise r (byte 114) if the roof is higher than 0;", () -> CHECKS.sameText("roofs of 0, 1 and 9",
                reportOf(Checks.after("street 8;roof 0 0;roof 1 1;roof 2 9;")), ".rr....."));
        READERS.test("otherwise a full stop (byte 46).", () -> CHECKS.sameText("nothing", reportOf(Checks.after("street 8;")), "........"));
        READERS.test("otherwise a full stop (byte 46).", () -> {
            BalloonPost post = Checks.after("street 8;balloon 0 1 1;parcel 1 1 0 1;tree 2 1;roof 3 1;");
            post.writeStreet();
            int[] bytes = {48, 112, 116, 114, 46, 46, 46, 46};
            for (int i = 0; i < bytes.length; i++) {
                CHECKS.same("byte " + i, post.reportByte(i), bytes[i]);
            }
        });
    }

    private static void reportByte() {
        READERS.under("Promise 64");
        READERS.namesNoBoundary("Returns a byte of the report.");
        READERS.test("`index`: the index of the byte, from 0", () -> {
            BalloonPost post = Checks.after("street 8;roof 0 1;tree 7 1;");
            post.writeStreet();
            CHECKS.same("the first", post.reportByte(0), 'r');
            CHECKS.same("the last", post.reportByte(7), 't');
        });
        String none = "Returns the byte, or NONE if the report has no such byte or nothing was written.";
        for (int index : new int[] {Integer.MIN_VALUE, -1, 0, 7, 8, 30, Integer.MAX_VALUE}) {
            READERS.test(none, () -> CHECKS.same("nothing was written, " + index, Checks.after("street 8;").reportByte(index), -1));
        }
        for (int places : new int[] {8, 30}) {
            for (int index : new int[] {Integer.MIN_VALUE, -1, places, places + 1, Integer.MAX_VALUE}) {
                READERS.test(none, () -> {
                    BalloonPost post = Checks.after("street " + places + ";");
                    post.writeStreet();
                    CHECKS.same("byte " + index + " of " + places, post.reportByte(index), -1);
                });
            }
        }
    }

    private static void notPromised() {
        READERS.under("Not promised");
        READERS.namesNoBoundary("How the state is held inside the object is free, as are the speed of each call, the text of toString and the behaviour of "
                + "equals and hashCode.", "Use of one object from several threads at once is not promised to be safe.",
                "Nothing is promised beyond the answers and state changes described above, and nothing about an object after its 512th call.");
    }
}
