/** Promises 50 to 57. */
public final class ChoicesAndPredictionsTest {
    private static final Checks CHECKS = new Checks("ChoicesAndPredictionsTest");
    private static final int MIN = Integer.MIN_VALUE;
    private static final int MAX = Integer.MAX_VALUE;

    public static void main(String[] args) {
        whyNoTie();
        whyNoLaunch();
        heaviestFor();
        bestBalloon();
        placeAndStateAfter();
        hoursToSink();
        hoursToDestination();
        predictionsChangeNothing();
        predictionsBeyondTheLastHour();
        CHECKS.finish();
    }

    // Promise 50
    private static void whyNoTie() {
        BalloonPost post = Checks.after("street 8;balloon 0 9 9;balloon 1 30 9;balloon 0 5 9;balloon 0 30 9;parcel 5 0 1 0;repeat 4(parcel 1 1 2 9;"
                + "claim 1 9;);parcel 1 1 2 1;parcel 1 1 2 2;parcel 1 1 2 3;parcel 1 1 2 4;parcel 9 1 2 5;tie 5 1;tie 6 1;tie 7 1;tie 8 1;launch 3;");
        CHECKS.same("allowed", post.whyNoTie(0, 0), BalloonPost.ALLOWED);
        CHECKS.same("claimed", post.whyNoTie(1, 1), BalloonPost.NOT_LYING);
        CHECKS.same("tied", post.whyNoTie(5, 1), BalloonPost.NOT_LYING);
        CHECKS.same("tied, and the balloon is flying", post.whyNoTie(5, 3), BalloonPost.NOT_LYING);
        CHECKS.same("flying, and elsewhere", post.whyNoTie(9, 3), BalloonPost.NOT_MOORED);
        CHECKS.same("flying", post.whyNoTie(0, 3), BalloonPost.NOT_MOORED);
        CHECKS.same("elsewhere, and four knots", post.whyNoTie(0, 1), BalloonPost.ELSEWHERE);
        CHECKS.same("elsewhere, and too heavy", post.whyNoTie(9, 2), BalloonPost.ELSEWHERE);
        CHECKS.same("four knots", post.whyNoTie(9, 1), BalloonPost.NO_KNOT);
        CHECKS.same("the load would be the lift", post.whyNoTie(0, 2), BalloonPost.TOO_HEAVY);
        post.fill(2, 1);
        CHECKS.same("the load would be less", post.whyNoTie(0, 2), BalloonPost.ALLOWED);
        BalloonPost heavy = Checks.after("street 8;balloon 1 6 9;parcel 1 1 2 1;parcel 1 1 2 2;parcel 1 1 2 3;parcel 1 1 2 4;parcel 9 1 2 5;tie 0 0;"
                + "tie 1 0;tie 2 0;tie 3 0;");
        CHECKS.same("four knots, and too heavy", heavy.whyNoTie(4, 0), BalloonPost.NO_KNOT);
        for (int wrong : new int[] {-1, 10, MIN, MAX}) {
            CHECKS.throwsIndex("whyNoTie parcel " + wrong, () -> post.whyNoTie(wrong, 0));
        }
        for (int wrong : new int[] {-1, 4, MIN, MAX}) {
            CHECKS.throwsIndex("whyNoTie balloon " + wrong, () -> post.whyNoTie(0, wrong));
        }
        BalloonPost caught = Checks.after("street 8;tree 1 9;gust east 1;balloon 0 9 9;launch 0;hours 1;parcel 1 1 0 0;");
        CHECKS.same("caught", caught.whyNoTie(0, 0), BalloonPost.NOT_MOORED);
    }

    // Promise 51
    private static void whyNoLaunch() {
        BalloonPost post = Checks.after("street 8;balloon 0 9 4;balloon 1 5 9;parcel 3 1 0 0;tie 0 1;tree 0 3;tree 1 1;");
        CHECKS.same("the tree is lower", post.whyNoLaunch(0), BalloonPost.ALLOWED);
        CHECKS.same("the tree is lower", post.whyNoLaunch(1), BalloonPost.ALLOWED);
        post.setTree(0, 4);
        post.setTree(1, 2);
        CHECKS.same("the tree is as high", post.whyNoLaunch(0), BalloonPost.UNDER_TREE);
        CHECKS.same("the tree is as high as the spare lift", post.whyNoLaunch(1), BalloonPost.UNDER_TREE);
        post.setTree(0, 0);
        post.setRoof(0, 9);
        CHECKS.same("a roof does not matter", post.whyNoLaunch(0), BalloonPost.ALLOWED);
        post.launch(0);
        CHECKS.same("flying", post.whyNoLaunch(0), BalloonPost.NOT_MOORED);
        post.setTree(0, 9);
        CHECKS.same("flying, under a tree", post.whyNoLaunch(0), BalloonPost.NOT_MOORED);
        for (int wrong : new int[] {-1, 2, MIN, MAX}) {
            CHECKS.throwsIndex("whyNoLaunch " + wrong, () -> post.whyNoLaunch(wrong));
        }
        BalloonPost caught = Checks.after("street 8;tree 1 9;gust east 1;balloon 0 9 9;launch 0;hours 1;");
        CHECKS.same("caught", caught.whyNoLaunch(0), BalloonPost.NOT_MOORED);
    }

    // Promise 52
    private static void heaviestFor() {
        BalloonPost post = Checks.after("street 8;balloon 0 1 9;balloon 0 2 9;balloon 0 10 9;balloon 0 11 9;balloon 0 30 9;parcel 1 0 1 1;parcel 1 0 1 2;"
                + "parcel 1 0 1 3;parcel 1 0 1 4;");
        int[] heaviest = {0, 1, 9, 9, 9};
        for (int balloon = 0; balloon < heaviest.length; balloon++) {
            CHECKS.same("heaviestFor " + balloon, post.heaviestFor(balloon), heaviest[balloon]);
        }
        post.tie(0, 2);
        CHECKS.same("with a load of 1 and a lift of 10", post.heaviestFor(2), 8);
        post.untie(0);
        for (int parcel = 0; parcel < 3; parcel++) {
            post.tie(parcel, 4);
        }
        CHECKS.same("three knots", post.heaviestFor(4), 9);
        post.tie(3, 4);
        CHECKS.same("four knots", post.heaviestFor(4), 0);
        post.launch(2);
        CHECKS.same("flying", post.heaviestFor(2), 9);
        for (int wrong : new int[] {-1, 5, MIN, MAX}) {
            CHECKS.throwsIndex("heaviestFor " + wrong, () -> post.heaviestFor(wrong));
        }
    }

    // Promise 53
    private static void bestBalloon() {
        BalloonPost post = Checks.after("street 8;balloon 0 20 9;balloon 0 7 9;balloon 0 6 9;balloon 0 7 9;balloon 1 6 9;parcel 6 0 1 1;parcel 9 1 0 2;"
                + "parcel 1 0 1 3;parcel 3 0 1 4;");
        CHECKS.same("the first of two", post.bestBalloon(0), 1);
        CHECKS.same("none", post.bestBalloon(1), -1);
        CHECKS.same("the smallest lift", post.bestBalloon(2), 2);
        post.launch(1);
        CHECKS.same("not a flying one", post.bestBalloon(0), 3);
        post.tie(3, 3);
        CHECKS.same("only one has lift enough", post.bestBalloon(0), 0);
        CHECKS.same("the lift minus the load counts", post.bestBalloon(2), 3);
        post.tie(0, 0);
        CHECKS.same("tied already", post.bestBalloon(0), -1);
        post.claim(0, 3);
        CHECKS.same("claimed", post.bestBalloon(2), -1);
        CHECKS.same("without balloons", Checks.after("street 8;parcel 1 0 1 0;").bestBalloon(0), -1);
        for (int wrong : new int[] {-1, 4, MIN, MAX}) {
            CHECKS.throwsIndex("bestBalloon " + wrong, () -> post.bestBalloon(wrong));
        }
    }

    // Promises 54 and 55
    private static void placeAndStateAfter() {
        BalloonPost post = new BalloonPost();
        int[] places = {2, 3, 2, 4, 4, 3, 4, 4, 3, 3};
        for (int hours = 0; hours < places.length; hours++) {
            CHECKS.same("placeAfter 0 " + hours, post.placeAfter(0, hours), places[hours]);
            CHECKS.same("stateAfter 0 " + hours, post.stateAfter(0, hours), hours < 8 ? BalloonPost.FLYING : BalloonPost.MOORED);
        }
        CHECKS.same("placeAfter 48", post.placeAfter(0, 48), 3);
        CHECKS.same("moored", post.placeAfter(2, 48), 7);
        CHECKS.same("moored", post.stateAfter(2, 48), BalloonPost.MOORED);
        post.setTree(3, 9);
        CHECKS.same("into the tree", post.stateAfter(0, 1), BalloonPost.CAUGHT);
        CHECKS.same("it stays there", post.stateAfter(0, 48), BalloonPost.CAUGHT);
        CHECKS.same("it stays there", post.placeAfter(0, 48), 3);
        for (int wrong : new int[] {-1, 3, MIN, MAX}) {
            CHECKS.throwsIndex("placeAfter balloon " + wrong, () -> post.placeAfter(wrong, 49));
            CHECKS.throwsIndex("stateAfter balloon " + wrong, () -> post.stateAfter(wrong, 49));
        }
        for (int wrong : new int[] {-1, 49, MIN, MAX}) {
            CHECKS.throwsArgument("placeAfter hours " + wrong, () -> post.placeAfter(0, wrong));
            CHECKS.throwsArgument("stateAfter hours " + wrong, () -> post.stateAfter(0, wrong));
        }
        BalloonPost far = Checks.after("street 30;gust east 1;gust east 0;leak 9;balloon 0 30 9;launch 0;");
        CHECKS.same("after 47 hours", far.placeAfter(0, 47), 24);
        CHECKS.same("after 48 hours", far.placeAfter(0, 48), 24);
        for (int hour = 0; hour < 48; hour++) {
            far.passHours(1);
        }
        CHECKS.same("as it comes", far.placeOf(0), 24);
    }

    // Promise 56
    private static void hoursToSink() {
        BalloonPost post = Checks.after("street 8;leak 9;balloon 0 23 9;balloon 0 22 9;balloon 0 1 9;balloon 0 9 9;parcel 8 0 1 0;tie 0 3;hours 1;"
                + "launch 0;launch 1;launch 2;launch 3;");
        CHECKS.same("22 leaks and a last one: 206 hours", post.hoursToSink(0), -1);
        CHECKS.same("22 leaks: 197 hours", post.hoursToSink(1), 22 * 9 - 1);
        CHECKS.same("the first leak sinks a lift of 1", post.hoursToSink(2), 8);
        CHECKS.same("the first leak sinks a full load", post.hoursToSink(3), 8);
        BalloonPost edge = Checks.after("street 8;leak 8;balloon 0 25 9;balloon 0 26 9;launch 0;launch 1;");
        CHECKS.same("200 hours", edge.hoursToSink(0), 200);
        CHECKS.same("208 hours", edge.hoursToSink(1), -1);
        BalloonPost justOver = Checks.after("street 8;leak 9;balloon 0 23 9;hours 6;launch 0;");
        CHECKS.same("201 hours", justOver.hoursToSink(0), -1);
        justOver.passHours(1);
        CHECKS.same("an hour later it is 200", justOver.hoursToSink(0), 200);
        BalloonPost over = Checks.after("street 8;leak 3;balloon 0 30 9;hours 1;launch 0;");
        CHECKS.same("30 leaks", over.hoursToSink(0), 89);
        over.moor(0);
        CHECKS.same("not flying", over.hoursToSink(0), -1);
        BalloonPost caught = Checks.after("street 8;leak 9;tree 2 9;gust east 1;balloon 0 9 9;launch 0;");
        CHECKS.same("it will be caught", caught.hoursToSink(0), -1);
        caught.passHours(2);
        CHECKS.same("caught", caught.hoursToSink(0), -1);
        for (int wrong : new int[] {-1, 1, MIN, MAX}) {
            CHECKS.throwsIndex("hoursToSink " + wrong, () -> caught.hoursToSink(wrong));
        }
    }

    // Promise 57
    private static void hoursToDestination() {
        BalloonPost post = Checks.after("street 30;gust east 1;leak 9;balloon 0 30 9;parcel 1 0 29 1;parcel 1 0 5 2;parcel 1 3 4 3;tie 0 0;tie 1 0;");
        CHECKS.same("on a moored balloon", post.hoursToDestination(0), -1);
        post.launch(0);
        CHECKS.same("29 places", post.hoursToDestination(0), 29);
        CHECKS.same("5 places", post.hoursToDestination(1), 5);
        CHECKS.same("it lies elsewhere", post.hoursToDestination(2), -1);
        post.passHours(5);
        CHECKS.same("it is there now, tied", post.hoursToDestination(1), 0);
        post.moor(0);
        post.untie(1);
        CHECKS.same("it is there now, lying", post.hoursToDestination(1), 0);
        post.claim(5, 2);
        CHECKS.same("claimed", post.hoursToDestination(1), -1);
        for (int wrong : new int[] {-1, 3, MIN, MAX}) {
            CHECKS.throwsIndex("hoursToDestination " + wrong, () -> post.hoursToDestination(wrong));
        }
        String head = "street 30;gust east 1;gust east 0;leak 9;balloon 0 30 9;tree 24 9;";
        BalloonPost edge = Checks.after(head + "parcel 1 0 24 1;parcel 1 0 25 2;tie 0 0;tie 1 0;launch 0;");
        CHECKS.same("47 hours", edge.hoursToDestination(0), 47);
        CHECKS.same("the tree keeps it", edge.hoursToDestination(1), -1);
        BalloonPost last = Checks.after("street 30;gust east 0;gust east 1;leak 9;balloon 0 30 9;parcel 1 0 24 1;parcel 1 0 25 2;tie 0 0;tie 1 0;launch 0;");
        CHECKS.same("48 hours", last.hoursToDestination(0), 48);
        CHECKS.same("50 hours", last.hoursToDestination(1), -1);
        BalloonPost passing = Checks.after("street 30;gust east 2;leak 9;balloon 0 30 9;parcel 1 0 5 1;parcel 1 0 6 2;tie 0 0;tie 1 0;launch 0;");
        CHECKS.same("flying past is not being there", passing.hoursToDestination(0), -1);
        CHECKS.same("after an hour it is there", passing.hoursToDestination(1), 3);
        BalloonPost sinking = Checks.after("street 8;gust east 1;leak 2;balloon 0 9 9;parcel 7 0 2 1;parcel 1 0 3 2;tie 0 0;tie 1 0;launch 0;");
        CHECKS.same("it falls off there", sinking.hoursToDestination(0), 2);
        CHECKS.same("its balloon sinks before", sinking.hoursToDestination(1), -1);
    }

    private static void predictionsChangeNothing() {
        BalloonPost post = new BalloonPost();
        String before = Checks.stateOf(post);
        post.placeAfter(0, 48);
        post.stateAfter(0, 48);
        post.hoursToSink(0);
        post.hoursToDestination(0);
        CHECKS.same("hour", post.hour(), 1);
        CHECKS.same("place", post.placeOf(0), 2);
        CHECKS.sameText("state", Checks.stateOf(post), before);
        CHECKS.same("undoCount", post.undoCount(), 0);
    }

    /** The document bounds only what passHours lets pass; predictions go on behind the hour 999. */
    private static void predictionsBeyondTheLastHour() {
        BalloonPost post = Checks.after("street 8;repeat 20(hours 24;hours 24;);hours 24;hours 14;gust east 1;leak 3;balloon 0 3 9;parcel 1 0 5 0;tie 0 0;launch 0;");
        CHECKS.same("hour", post.hour(), 998);
        CHECKS.same("placeAfter", post.placeAfter(0, 3), 3);
        CHECKS.same("hoursToSink: the leaks of 998 and 1001", post.hoursToSink(0), 4);
        CHECKS.same("hoursToDestination", post.hoursToDestination(0), -1);
        CHECKS.same("stateAfter", post.stateAfter(0, 4), BalloonPost.MOORED);
    }
}
