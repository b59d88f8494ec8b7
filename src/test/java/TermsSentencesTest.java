/** What the document says in front of its scripts, sentence by sentence: each boundary case has a test of its own. */
public final class TermsSentencesTest {
    private static final Checks CHECKS = new Checks("TermsSentencesTest");
    private static final Sentences TERMS = new Sentences(CHECKS, "What it is", "Terms: Scripts");

    public static void main(String[] args) {
        whatItIs();
        street();
        balloons();
        heightOfBalloons();
        relieving();
        parcels();
        numbersAndPlacesOfParcels();
        tying();
        launching();
        gusts();
        hours();
        roofsAndEnds();
        trees();
        leaks();
        sinking();
        freeing();
        gas();
        claims();
        TERMS.finish();
    }

    private static void whatItIs() {
        TERMS.under("What it is");
        TERMS.namesNoBoundary("The parcel service of balloons:", "parcels are tied to the strings of balloons, gusts carry the balloons along a "
                + "street with roofs and trees, gas leaks, and parcels are claimed by the numbers on their strings.");
        TERMS.test("An object is used for at most 512 calls after it has been made;", () -> {
            BalloonPost post = new BalloonPost();
            for (int call = 1; call < 512; call++) {
                post.passHours(1);
            }
            CHECKS.same("call 512", post.passHours(1), 513);
        });
        TERMS.namesNoBoundary("what later calls answer is free.");
        TERMS.under("The public face");
        TERMS.under("Terms");
    }

    private static void street() {
        TERMS.under("Terms: The street");
        String places = "It has 8 to 30 places, numbered from 0, from west to east.";
        TERMS.test(places, () -> {
            CHECKS.bad(2, "street ^7;");
            CHECKS.same("the shortest", Checks.after("street 8;").streetLength(), 8);
            CHECKS.same("the longest", Checks.after("street 30;").streetLength(), 30);
            CHECKS.bad(2, "street ^31;");
        });
        TERMS.test(places, () -> {
            for (int length : new int[] {8, 30}) {
                BalloonPost post = Checks.after("street " + length + ";");
                CHECKS.takesRange("places of " + length, 0, length - 1, post::roof);
                CHECKS.refusesOutside("places of " + length, 0, length - 1, IndexOutOfBoundsException.class, post::roof);
            }
        });
        TERMS.test(places, () -> CHECKS.same("east of 3", Checks.after("street 8;gust east 1;balloon 3 9 9;launch 0;hours 1;").placeOf(0), 4));
        String heights = "Each place has a roof and a tree with a height from 0 to 9 each, 0 at first.";
        TERMS.test(heights, () -> {
            BalloonPost post = new BalloonPost();
            CHECKS.takesRange("a roof of", 0, 9, height -> post.setRoof(0, height));
            CHECKS.takesRange("a tree of", 0, 9, height -> post.setTree(0, height));
            CHECKS.refusesOutside("a roof of", 0, 9, IllegalArgumentException.class, height -> post.setRoof(0, height));
            CHECKS.refusesOutside("a tree of", 0, 9, IllegalArgumentException.class, height -> post.setTree(0, height));
        });
        TERMS.test(heights, () -> {
            BalloonPost post = Checks.after("street 30;");
            for (int place = 0; place < 30; place++) {
                CHECKS.same("the first roof at " + place, post.roof(place), 0);
                CHECKS.same("the first tree at " + place, post.tree(place), 0);
            }
        });
    }

    private static void balloons() {
        TERMS.under("Terms: Balloons");
        TERMS.test("There are at most 8 balloons, numbered from 0.", () -> {
            BalloonPost post = Checks.after("street 8;");
            for (int balloon = 0; balloon < 8; balloon++) {
                CHECKS.same("its number", post.addBalloon(0, 1, 1), balloon);
            }
            CHECKS.throwsState("a ninth balloon", () -> post.addBalloon(0, 1, 1));
            CHECKS.same("balloonCount", post.balloonCount(), 8);
        });
        TERMS.test("A balloon has a place, a lift (1 to 30) and a string (a length from 1 to 9).", () -> {
            BalloonPost post = Checks.after("street 8;");
            CHECKS.takesRange("a lift of", 1, 30, lift -> post.addBalloon(0, lift, 1));
            CHECKS.takesRange("a string of", 1, 9, length -> post.addBalloon(7, 1, length));
            CHECKS.refusesOutside("a lift of", 1, 30, IllegalArgumentException.class, lift -> post.addBalloon(0, lift, 1));
            CHECKS.refusesOutside("a string of", 1, 9, IllegalArgumentException.class, length -> post.addBalloon(0, 1, length));
            int[] got = {post.placeOf(1), post.lift(1), post.stringLength(1), post.placeOf(3), post.lift(3), post.stringLength(3)};
            int[] want = {0, 30, 1, 7, 1, 9};
            for (int i = 0; i < want.length; i++) {
                CHECKS.same("value " + i, got[i], want[i]);
            }
        });
        TERMS.test("It is MOORED (at first), FLYING or CAUGHT.", () -> {
            BalloonPost post = Checks.after("street 8;tree 1 9;gust east 1;balloon 0 9 9;");
            CHECKS.same("at first", post.stateOf(0), BalloonPost.MOORED);
            post.launch(0);
            CHECKS.same("launched", post.stateOf(0), BalloonPost.FLYING);
            post.passHours(1);
            CHECKS.same("in the tree", post.stateOf(0), BalloonPost.CAUGHT);
        });
        TERMS.test("At most 4 parcels are tied to it;", () -> {
            BalloonPost post = Checks.after("street 8;repeat 2(balloon 0 30 9;);parcel 1 0 1 1;parcel 1 0 1 2;parcel 1 0 1 3;parcel 1 0 1 4;"
                    + "parcel 1 0 1 5;tie 0 0;tie 1 0;tie 2 0;");
            CHECKS.same("the fourth", post.tie(3, 0), 4);
            CHECKS.throwsState("the fifth", () -> post.tie(4, 0));
            CHECKS.same("parcelsOf", post.parcelsOf(0), 15);
            CHECKS.same("another balloon has knots of its own", post.tie(4, 1), 1);
            post.untie(4);
            post.untie(0);
            CHECKS.same("a knot that is free again", post.tie(4, 0), 4);
        });
        TERMS.test("its load is the sum of their weights, and it is always less than its lift.", () -> {
            BalloonPost post = Checks.after("street 8;leak 1;balloon 0 9 9;parcel 5 0 1 1;parcel 3 0 1 2;parcel 1 0 1 3;");
            CHECKS.same("no parcels", post.load(0), 0);
            post.tie(0, 0);
            post.tie(1, 0);
            CHECKS.same("1 less than the lift", post.load(0), 8);
            CHECKS.throwsState("as much as the lift", () -> post.tie(2, 0));
            post.launch(0);
            post.passHours(1);
            CHECKS.same("less than the lift that is left", post.load(0), 3);
            CHECKS.same("lift", post.lift(0), 8);
        });
    }

    private static void heightOfBalloons() {
        String smaller = "Its height is the smaller one of the length of its string and the lift minus the load.";
        TERMS.test(smaller, () -> CHECKS.same("the string", Checks.after("street 8;balloon 0 6 5;").height(0), 5));
        TERMS.test(smaller, () -> CHECKS.same("both alike", Checks.after("street 8;balloon 0 5 5;").height(0), 5));
        TERMS.test(smaller, () -> CHECKS.same("the lift", Checks.after("street 8;balloon 0 4 5;").height(0), 4));
        TERMS.test(smaller, () -> CHECKS.same("the lift minus the load",
                Checks.after("street 8;balloon 0 9 5;parcel 8 0 1 0;tie 0 0;").height(0), 1));
        TERMS.test(smaller, () -> CHECKS.same("the smallest lift and the longest string", Checks.after("street 8;balloon 0 1 9;").height(0), 1));
        TERMS.test(smaller, () -> CHECKS.same("the greatest lift and the shortest string", Checks.after("street 8;balloon 0 30 1;").height(0), 1));
    }

    /** A lift of 1 less by a leak, or of 2 less by freeing, is where parcels may fall off. */
    private static void relieving() {
        String relieved = "When a balloon is relieved, the heaviest one of its parcels, of several the one with the smallest number, falls off as "
                + "long as the load is not less than the lift.";
        TERMS.test(relieved, () -> {
            BalloonPost post = Checks.after("street 8;leak 1;balloon 0 5 9;parcel 1 0 1 1;parcel 3 0 1 2;tie 0 0;tie 1 0;launch 0;hours 1;");
            CHECKS.same("the heaviest, where the lightest would be enough", post.parcelsAt(0), 2);
        });
        TERMS.test(relieved, () -> {
            BalloonPost post = Checks.after("street 8;leak 1;balloon 0 8 9;parcel 1 0 1 9;parcel 2 0 1 8;parcel 2 0 1 7;parcel 2 0 1 6;tie 3 0;"
                    + "tie 2 0;tie 1 0;tie 0 0;launch 0;hours 1;");
            CHECKS.same("of several the first parcel, whatever the order of tying and the numbers on the strings", post.parcelsAt(0), 2);
        });
        TERMS.test(relieved, () -> {
            BalloonPost post = Checks.after("street 8;tree 1 9;gust east 1;balloon 0 3 9;parcel 1 0 7 1;parcel 1 0 7 2;tie 0 0;tie 1 0;launch 0;hours 1;");
            CHECKS.same("a load that is the lift is still too much: both fall off", post.free(0), 2);
        });
        TERMS.test(relieved, () -> {
            BalloonPost post = Checks.after("street 8;tree 1 9;gust east 1;balloon 0 5 9;parcel 2 0 7 1;parcel 2 0 7 2;tie 0 0;tie 1 0;launch 0;hours 1;");
            CHECKS.same("one falls off, and the load of 2 is less than the lift of 3", post.free(0), 1);
            CHECKS.same("parcelsOf", post.parcelsOf(0), 2);
        });
        TERMS.test(relieved, () -> {
            BalloonPost post = Checks.after("street 8;tree 1 9;gust east 1;balloon 0 5 9;parcel 2 0 7 1;tie 0 0;launch 0;hours 1;");
            CHECKS.same("none: the load of 2 is less than the lift of 3", post.free(0), 0);
        });
        TERMS.test(relieved, () -> {
            BalloonPost post = Checks.after("street 8;tree 1 9;gust east 1;balloon 0 1 9;launch 0;hours 1;");
            CHECKS.same("none: a balloon without parcels", post.free(0), 0);
        });
        TERMS.test(relieved, () -> {
            BalloonPost post = Checks.after("street 8;leak 1;balloon 0 9 9;balloon 0 2 9;parcel 5 0 7 1;parcel 1 0 7 2;tie 0 0;tie 1 1;launch 1;hours 1;");
            CHECKS.same("one of its own parcels falls off, not a heavier one of another balloon", post.parcelsAt(0), 2);
            CHECKS.same("the other balloon keeps its parcel", post.parcelsOf(0), 1);
        });
    }

    private static void parcels() {
        TERMS.under("Terms: Parcels");
        TERMS.test("There are at most 16 parcels, numbered from 0.", () -> {
            BalloonPost post = Checks.after("street 8;");
            for (int parcel = 0; parcel < 16; parcel++) {
                CHECKS.same("its number", post.addParcel(1, 0, 1, 99 - parcel), parcel);
            }
            CHECKS.throwsState("a seventeenth parcel", () -> post.addParcel(1, 0, 1, 0));
            CHECKS.same("parcelCount", post.parcelCount(), 16);
        });
        String values = "A parcel has a weight (1 to 9), an origin, a destination (another place) and a number on its string (0 to 99);";
        TERMS.test(values, () -> {
            BalloonPost post = Checks.after("street 8;");
            CHECKS.takesRange("a weight of", 1, 9, weight -> post.addParcel(weight, 0, 1, 50 + weight));
            CHECKS.refusesOutside("a weight of", 1, 9, IllegalArgumentException.class, weight -> post.addParcel(weight, 0, 1, 1));
        });
        TERMS.test(values, () -> {
            BalloonPost post = Checks.after("street 8;");
            CHECKS.takesRange("the number", 0, 99, number -> post.addParcel(1, 0, 1, number));
            CHECKS.refusesOutside("the number", 0, 99, IllegalArgumentException.class, number -> post.addParcel(1, 0, 1, number));
        });
        TERMS.test(values, () -> {
            BalloonPost post = Checks.after("street 8;");
            CHECKS.throwsArgument("the first place to itself", () -> post.addParcel(1, 0, 0, 1));
            CHECKS.throwsArgument("the last place to itself", () -> post.addParcel(1, 7, 7, 1));
            CHECKS.same("the next place", post.addParcel(1, 6, 7, 1), 0);
            CHECKS.same("the other way", post.addParcel(1, 7, 6, 2), 1);
        });
    }

    private static void numbersAndPlacesOfParcels() {
        String numbers = "no two parcels that are not claimed have the same number.";
        TERMS.test(numbers, () -> {
            BalloonPost post = Checks.after("street 8;parcel 1 0 1 5;");
            CHECKS.throwsState("the number of a lying parcel", () -> post.addParcel(1, 2, 3, 5));
        });
        TERMS.test(numbers, () -> {
            BalloonPost post = Checks.after("street 8;parcel 1 0 1 5;balloon 0 9 9;tie 0 0;");
            CHECKS.throwsState("the number of a tied parcel", () -> post.addParcel(1, 2, 3, 5));
        });
        TERMS.test(numbers, () -> {
            BalloonPost post = Checks.after("street 8;parcel 1 0 1 5;claim 0 5;");
            CHECKS.same("the number of a claimed parcel", post.addParcel(1, 2, 3, 5), 1);
            CHECKS.throwsState("the number of the second one", () -> post.addParcel(1, 2, 3, 5));
        });
        String states = "A parcel is LYING at a place (at first at its origin), TIED to a balloon (its place is that of the balloon) or CLAIMED.";
        TERMS.test(states, () -> {
            BalloonPost post = Checks.after("street 8;gust east 3;balloon 2 9 9;parcel 1 2 7 5;");
            CHECKS.same("at first", post.parcelState(0), BalloonPost.LYING);
            CHECKS.same("at its origin", post.parcelPlace(0), 2);
            post.tie(0, 0);
            CHECKS.same("tied", post.parcelState(0), BalloonPost.TIED);
            post.launch(0);
            post.passHours(1);
            CHECKS.same("where the balloon is", post.parcelPlace(0), 5);
            CHECKS.same("it does not lie there", post.parcelsAt(5), 0);
            post.moor(0);
            post.untie(0);
            CHECKS.same("untied", post.parcelState(0), BalloonPost.LYING);
            post.claim(5, 5);
            CHECKS.same("claimed", post.parcelState(0), BalloonPost.CLAIMED);
            CHECKS.same("nowhere", post.parcelPlace(0), -1);
        });
        String fall = "Parcels that fall off or are untied lie at the place of the balloon.";
        TERMS.test(fall, () -> {
            BalloonPost post = Checks.after("street 8;gust east 3;leak 1;balloon 2 9 9;parcel 8 2 7 5;tie 0 0;launch 0;hours 1;");
            CHECKS.same("it fell off when the balloon sank", post.parcelPlace(0), 5);
            CHECKS.same("not at its origin", post.parcelsAt(2), 0);
        });
        TERMS.test(fall, () -> {
            BalloonPost post = Checks.after("street 8;gust east 3;tree 4 9;balloon 2 9 9;parcel 8 2 7 5;tie 0 0;launch 0;hours 1;free 0;");
            CHECKS.same("it fell off when the balloon was freed", post.parcelPlace(0), 4);
        });
        TERMS.test(fall, () -> {
            BalloonPost post = Checks.after("street 8;gust east 3;balloon 2 9 9;parcel 8 2 7 5;tie 0 0;launch 0;hours 1;moor 0;untie 0;");
            CHECKS.same("untied", post.parcelPlace(0), 5);
            CHECKS.same("parcelsAt", post.parcelsAt(5), 1);
        });
    }

    /** Parcel 0 to 3 hang on balloon 0, 4 is claimed, 5 lies at 0, 6 at 1; balloon 1 flies at 0, balloon 2 is at 1. */
    private static BalloonPost tied() {
        return Checks.after("street 8;balloon 0 6 9;balloon 0 9 9;balloon 1 3 9;parcel 1 0 1 1;parcel 1 0 1 2;parcel 1 0 1 3;parcel 1 0 1 4;"
                + "parcel 1 0 1 5;parcel 9 0 1 6;parcel 3 1 0 7;tie 0 0;tie 1 0;tie 2 0;tie 3 0;claim 0 5;launch 1;");
    }

    private static void tying() {
        String first = "Tying is refused for the first of these reasons that applies:";
        TERMS.test(first, () -> CHECKS.same("tied, and the balloon flies", tied().whyNoTie(0, 1), BalloonPost.NOT_LYING));
        TERMS.test(first, () -> CHECKS.same("tied, and elsewhere", tied().whyNoTie(0, 2), BalloonPost.NOT_LYING));
        TERMS.test(first, () -> CHECKS.same("tied, to this balloon with 4 knots", tied().whyNoTie(0, 0), BalloonPost.NOT_LYING));
        TERMS.test(first, () -> CHECKS.same("it flies, and elsewhere", tied().whyNoTie(6, 1), BalloonPost.NOT_MOORED));
        TERMS.test(first, () -> CHECKS.same("it flies, and too heavy", tied().whyNoTie(5, 1), BalloonPost.NOT_MOORED));
        TERMS.test(first, () -> CHECKS.same("elsewhere, and 4 knots", tied().whyNoTie(6, 0), BalloonPost.ELSEWHERE));
        TERMS.test(first, () -> CHECKS.same("elsewhere, and too heavy", tied().whyNoTie(5, 2), BalloonPost.ELSEWHERE));
        TERMS.test(first, () -> CHECKS.same("4 knots, and too heavy", tied().whyNoTie(5, 0), BalloonPost.NO_KNOT));
        TERMS.test(first, () -> {
            BalloonPost flying = Checks.after("street 8;balloon 0 9 9;parcel 1 0 1 1;parcel 1 0 1 2;parcel 1 0 1 3;parcel 1 0 1 4;tie 0 0;"
                    + "tie 1 0;tie 2 0;tie 3 0;parcel 1 0 1 5;launch 0;");
            CHECKS.same("it flies, and 4 knots", flying.whyNoTie(4, 0), BalloonPost.NOT_MOORED);
        });
        TERMS.test("NOT_LYING, the parcel does not lie at a place;", () -> {
            CHECKS.same("tied", tied().whyNoTie(0, 2), BalloonPost.NOT_LYING);
            CHECKS.same("claimed", tied().whyNoTie(4, 0), BalloonPost.NOT_LYING);
            CHECKS.throwsState("tie a claimed one", () -> tied().tie(4, 0));
        });
        TERMS.test("NOT_MOORED, the balloon is not moored;", () -> {
            BalloonPost caught = Checks.after("street 8;tree 1 9;gust east 1;balloon 0 9 9;launch 0;hours 1;parcel 1 1 0 0;");
            CHECKS.same("flying", tied().whyNoTie(5, 1), BalloonPost.NOT_MOORED);
            CHECKS.same("caught", caught.whyNoTie(0, 0), BalloonPost.NOT_MOORED);
            CHECKS.throwsState("tie to a caught one", () -> caught.tie(0, 0));
        });
        TERMS.test("ELSEWHERE, they are at different places;", () -> {
            BalloonPost post = Checks.after("street 8;balloon 3 9 9;parcel 1 2 0 2;parcel 1 3 0 3;parcel 1 4 0 4;");
            CHECKS.same("a place to the west", post.whyNoTie(0, 0), BalloonPost.ELSEWHERE);
            CHECKS.same("the same place", post.whyNoTie(1, 0), BalloonPost.ALLOWED);
            CHECKS.same("a place to the east", post.whyNoTie(2, 0), BalloonPost.ELSEWHERE);
        });
        TERMS.test("NO_KNOT, 4 parcels are tied to the balloon;", () -> {
            BalloonPost post = tied();
            post.fill(0, 24);
            CHECKS.same("4 parcels", post.whyNoTie(5, 0), BalloonPost.NO_KNOT);
            post.untie(0);
            CHECKS.same("3 parcels", post.whyNoTie(5, 0), BalloonPost.ALLOWED);
        });
        TERMS.test("TOO_HEAVY, the load with the parcel would not be less than the lift.", () -> {
            BalloonPost post = tied();
            post.untie(3);
            CHECKS.same("a load of 12 would be more than the lift of 6", post.whyNoTie(5, 0), BalloonPost.TOO_HEAVY);
            post.fill(0, 6);
            CHECKS.same("a load of 12 would be the lift", post.whyNoTie(5, 0), BalloonPost.TOO_HEAVY);
            CHECKS.throwsState("tie it", () -> post.tie(5, 0));
            post.fill(0, 1);
            CHECKS.same("a load of 12 would be less than 13", post.whyNoTie(5, 0), BalloonPost.ALLOWED);
            CHECKS.same("tie it", post.tie(5, 0), 12);
        });
    }

    private static void launching() {
        TERMS.test("Launching is refused for the first of these reasons:", () -> {
            BalloonPost post = Checks.after("street 8;balloon 0 9 9;launch 0;tree 0 9;");
            CHECKS.same("it flies, and over a high tree", post.whyNoLaunch(0), BalloonPost.NOT_MOORED);
        });
        TERMS.test("NOT_MOORED;", () -> {
            BalloonPost post = Checks.after("street 8;balloon 0 9 9;launch 0;");
            CHECKS.same("flying", post.whyNoLaunch(0), BalloonPost.NOT_MOORED);
            CHECKS.throwsState("launch a flying one", () -> post.launch(0));
        });
        TERMS.test("NOT_MOORED;", () -> {
            BalloonPost post = Checks.after("street 8;tree 1 9;gust east 1;balloon 0 9 9;launch 0;hours 1;tree 1 0;");
            CHECKS.same("caught", post.whyNoLaunch(0), BalloonPost.NOT_MOORED);
            CHECKS.throwsState("launch a caught one", () -> post.launch(0));
        });
        String under = "UNDER_TREE, the tree at the place of the balloon is at least as high as the height of the balloon.";
        int[] reasons = {BalloonPost.ALLOWED, BalloonPost.UNDER_TREE, BalloonPost.UNDER_TREE};
        for (int i = 0; i < reasons.length; i++) {
            int tree = i + 3;
            int reason = reasons[i];
            TERMS.test(under, () -> {
                BalloonPost post = Checks.after("street 8;tree 3 9;balloon 7 9 4;balloon 0 6 9;parcel 2 0 1 0;tie 0 1;");
                post.setTree(7, tree);
                post.setTree(0, tree);
                CHECKS.same("a tree of " + tree + " and a string of 4", post.whyNoLaunch(0), reason);
                CHECKS.same("a tree of " + tree + " and a spare lift of 4", post.whyNoLaunch(1), reason);
            });
        }
        TERMS.test(under, () -> {
            BalloonPost post = Checks.after("street 8;balloon 0 1 1;tree 0 1;");
            CHECKS.throwsState("a tree of 1 and a lift of 1", () -> post.launch(0));
            post.setTree(0, 0);
            CHECKS.same("no tree", post.launch(0), 1);
        });
    }

    private static void gusts() {
        TERMS.under("Terms: Gusts");
        TERMS.test("A gust is a number from -3 to 3;", () -> {
            BalloonPost post = Checks.after("street 8;");
            CHECKS.takesRange("a gust of", -3, 3, post::addGust);
            CHECKS.refusesOutside("a gust of", -3, 3, IllegalArgumentException.class, post::addGust);
            CHECKS.same("two of them stand", post.addGust(0), 3);
        });
        TERMS.test("it carries balloons by so many places, to the west if it is negative.", () -> {
            for (int gust = -3; gust <= 3; gust++) {
                BalloonPost post = Checks.after("street 8;balloon 3 9 9;launch 0;");
                post.addGust(gust);
                post.passHours(1);
                CHECKS.same("from 3 with a gust of " + gust, post.placeOf(0), 3 + gust);
            }
        });
        String row = "The gusts are a row of at most 12 numbers, empty at first;";
        TERMS.test(row, () -> {
            BalloonPost post = Checks.after("street 8;");
            for (int gusts = 1; gusts <= 12; gusts++) {
                CHECKS.same("the number of gusts", post.addGust(1), gusts);
            }
            CHECKS.throwsState("a thirteenth gust", () -> post.addGust(1));
            CHECKS.throwsState("a thirteenth gust of 0", () -> post.addGust(0));
        });
        TERMS.test(row, () -> CHECKS.same("the first gust of an empty row", Checks.after("street 8;").addGust(3), 1));
        String wrap = "the gust of an hour is the number whose index is the remainder of the hour divided by the number of gusts, and 0 without gusts.";
        TERMS.test(wrap, () -> {
            BalloonPost post = Checks.after("street 8;gust east 3;repeat 10(gust east 1;);gust west 2;");
            int[] hours = {0, 1, 10, 11, 12, 13, 23, 24, 995, 996, 999};
            int[] gusts = {3, 1, 1, -2, 3, 1, -2, 3, -2, 3, 1};
            for (int i = 0; i < hours.length; i++) {
                CHECKS.same("12 gusts, hour " + hours[i], post.gustAt(hours[i]), gusts[i]);
            }
        });
        TERMS.test(wrap, () -> {
            BalloonPost post = Checks.after("street 8;gust west 3;");
            CHECKS.same("one gust, hour 0", post.gustAt(0), -3);
            CHECKS.same("one gust, hour 999", post.gustAt(999), -3);
        });
        TERMS.test(wrap, () -> {
            BalloonPost post = Checks.after("street 8;balloon 3 9 9;launch 0;");
            CHECKS.same("without gusts, hour 0", post.gustAt(0), 0);
            CHECKS.same("without gusts, hour 999", post.gustAt(999), 0);
            post.passHours(1);
            CHECKS.same("without gusts it stays", post.placeOf(0), 3);
        });
        TERMS.test(wrap, () -> {
            BalloonPost post = Checks.after("street 8;leak 9;gust east 3;gust west 1;balloon 0 9 9;launch 0;");
            int[] places = {3, 2, 5, 4, 7};
            for (int hour = 0; hour < places.length; hour++) {
                post.passHours(1);
                CHECKS.same("behind hour " + hour + " of two gusts", post.placeOf(0), places[hour]);
            }
        });
        TERMS.test(wrap, () -> {
            BalloonPost post = Checks.after("street 8;hours 3;gust east 3;gust west 1;balloon 3 9 9;launch 0;hours 1;");
            CHECKS.same("hour 3 of two gusts", post.placeOf(0), 2);
            post.addGust(2);
            CHECKS.same("a third gust changes those of later hours", post.gustAt(5), 2);
        });
    }

    private static void hours() {
        TERMS.under("Terms: Hours");
        String hours = "The hour is 0 at first and 999 at most.";
        TERMS.test(hours, () -> CHECKS.same("at first", Checks.after("street 8;").hour(), 0));
        TERMS.test(hours, () -> {
            BalloonPost post = Checks.after("street 8;repeat 20(hours 24;hours 24;);hours 24;");
            CHECKS.throwsState("984 + 16", () -> post.passHours(16));
            CHECKS.same("984 + 15", post.passHours(15), 999);
            CHECKS.throwsState("999 + 1", () -> post.passHours(1));
            CHECKS.throwsState("999 + 24", () -> post.passHours(24));
            CHECKS.same("hour", post.hour(), 999);
        });
        String carried = "When an hour passes, each flying balloon, in ascending order, is carried by the gust of this hour, place by place:";
        TERMS.test(carried, () -> {
            BalloonPost post = Checks.after("street 8;gust east 2;repeat 8(balloon 0 9 9;);launch 0;launch 7;hours 1;");
            CHECKS.same("the first", post.placeOf(0), 2);
            CHECKS.same("the last", post.placeOf(7), 2);
            CHECKS.same("a moored one stays", post.placeOf(1), 0);
        });
        TERMS.test(carried, () -> {
            BalloonPost post = Checks.after("street 8;tree 2 9;gust east 2;balloon 0 9 9;launch 0;hours 1;tree 2 0;hours 2;");
            CHECKS.same("a caught one stays", post.placeOf(0), 2);
        });
        TERMS.test(carried, () -> {
            BalloonPost post = Checks.after("street 8;gust east 2;gust west 1;balloon 3 9 9;launch 0;hours 1;");
            CHECKS.same("the gust of hour 0, not of hour 1", post.placeOf(0), 5);
        });
        TERMS.test("Then the hour becomes 1 greater.", () -> {
            BalloonPost post = Checks.after("street 8;");
            CHECKS.same("passHours 1", post.passHours(1), 1);
            CHECKS.same("hour", post.hour(), 1);
        });
    }

    private static void roofsAndEnds() {
        String stops = "it stops in front of the end of the street and in front of a place whose roof is higher than the height of the balloon;";
        TERMS.test(stops, () -> {
            CHECKS.same("into the eastern end", Checks.after("street 8;gust east 3;balloon 5 9 9;launch 0;hours 1;").placeOf(0), 7);
            CHECKS.same("up to it", Checks.after("street 8;gust east 3;balloon 4 9 9;launch 0;hours 1;").placeOf(0), 7);
            CHECKS.same("at it", Checks.after("street 8;gust east 3;balloon 7 9 9;launch 0;hours 1;").placeOf(0), 7);
            CHECKS.same("of the longest street", Checks.after("street 30;gust east 3;balloon 28 9 9;launch 0;hours 1;").placeOf(0), 29);
        });
        TERMS.test(stops, () -> {
            CHECKS.same("into the western end", Checks.after("street 8;gust west 3;balloon 2 9 9;launch 0;hours 1;").placeOf(0), 0);
            CHECKS.same("up to it", Checks.after("street 8;gust west 3;balloon 3 9 9;launch 0;hours 1;").placeOf(0), 0);
            CHECKS.same("at it", Checks.after("street 8;gust west 3;balloon 0 9 9;launch 0;hours 1;").placeOf(0), 0);
        });
        TERMS.test(stops, () -> {
            BalloonPost post = Checks.after("street 8;gust east 3;balloon 5 9 9;launch 0;hours 1;");
            CHECKS.same("it does not cease to fly there", post.stateOf(0), BalloonPost.FLYING);
        });
        int[] places = {4, 4, 2};
        for (int i = 0; i < places.length; i++) {
            int roof = i + 4;
            int place = places[i];
            TERMS.test(stops, () -> CHECKS.same("a height of 5 and a roof of " + roof,
                    Checks.after("street 8;gust east 3;roof 3 " + roof + ";balloon 1 9 5;launch 0;hours 1;").placeOf(0), place));
        }
        TERMS.test(stops, () -> CHECKS.same("a roof at the place behind its way",
                Checks.after("street 8;gust east 3;roof 5 9;balloon 1 9 5;launch 0;hours 1;").placeOf(0), 4));
        TERMS.test(stops, () -> CHECKS.same("a roof at the last place of its way",
                Checks.after("street 8;gust west 3;roof 1 9;balloon 4 9 5;launch 0;hours 1;").placeOf(0), 2));
        TERMS.test(stops, () -> CHECKS.same("a roof where it is already",
                Checks.after("street 8;gust west 3;roof 4 9;balloon 4 9 5;launch 0;hours 1;").placeOf(0), 1));
        TERMS.test(stops, () -> CHECKS.same("the load makes the height",
                Checks.after("street 8;gust west 1;roof 3 2;balloon 4 9 5;parcel 8 4 0 0;tie 0 0;launch 0;hours 1;").placeOf(0), 4));
        TERMS.test(stops, () -> {
            BalloonPost post = Checks.after("street 8;gust east 3;roof 2 9;tree 2 9;balloon 1 9 5;launch 0;hours 1;");
            CHECKS.same("in front of the roof, and not in the tree there", post.placeOf(0), 1);
            CHECKS.same("flying", post.stateOf(0), BalloonPost.FLYING);
        });
    }

    private static void trees() {
        String trees = "if it comes to a place whose tree is at least as high as its height, it is CAUGHT there and stops (the tree at the place "
                + "where it is already does not catch it).";
        int[] places = {4, 3, 3};
        int[] states = {BalloonPost.FLYING, BalloonPost.CAUGHT, BalloonPost.CAUGHT};
        for (int i = 0; i < places.length; i++) {
            int tree = i + 4;
            int place = places[i];
            int state = states[i];
            TERMS.test(trees, () -> {
                BalloonPost post = Checks.after("street 8;gust east 3;tree 3 " + tree + ";balloon 1 9 5;launch 0;hours 1;");
                CHECKS.same("a height of 5 and a tree of " + tree, post.placeOf(0), place);
                CHECKS.same("its state", post.stateOf(0), state);
            });
        }
        TERMS.test(trees, () -> {
            BalloonPost post = Checks.after("street 8;gust west 2;tree 3 9;balloon 5 9 5;launch 0;hours 1;");
            CHECKS.same("a tree at the last place of its way", post.placeOf(0), 3);
            CHECKS.same("its state", post.stateOf(0), BalloonPost.CAUGHT);
        });
        TERMS.test(trees, () -> {
            BalloonPost post = Checks.after("street 8;gust west 2;tree 2 9;balloon 5 9 5;launch 0;hours 1;");
            CHECKS.same("a tree behind the last place of its way", post.stateOf(0), BalloonPost.FLYING);
        });
        TERMS.test(trees, () -> {
            BalloonPost post = Checks.after("street 8;gust east 0;gust east 1;balloon 3 9 5;launch 0;tree 3 9;hours 1;");
            CHECKS.same("a tree where it is already, and no wind", post.stateOf(0), BalloonPost.FLYING);
            post.passHours(1);
            CHECKS.same("it leaves the tree behind", post.placeOf(0), 4);
            CHECKS.same("flying", post.stateOf(0), BalloonPost.FLYING);
        });
        TERMS.test(trees, () -> {
            BalloonPost post = Checks.after("street 8;gust east 1;balloon 7 9 5;launch 0;tree 7 9;hours 1;");
            CHECKS.same("a tree where the end of the street keeps it", post.stateOf(0), BalloonPost.FLYING);
        });
        TERMS.test(trees, () -> {
            BalloonPost post = Checks.after("street 8;gust east 1;gust west 1;balloon 3 9 5;launch 0;tree 3 9;hours 2;");
            CHECKS.same("it comes back to the tree", post.stateOf(0), BalloonPost.CAUGHT);
            CHECKS.same("there", post.placeOf(0), 3);
        });
        TERMS.test(trees, () -> CHECKS.same("no tree catches the lowest balloon",
                Checks.after("street 8;gust east 3;balloon 0 1 1;launch 0;hours 1;").stateOf(0), BalloonPost.FLYING));
        String noLoss = "A caught balloon loses no lift.";
        TERMS.test(noLoss, () -> {
            BalloonPost post = Checks.after("street 8;leak 1;tree 1 9;gust east 1;balloon 0 9 9;launch 0;hours 1;");
            CHECKS.same("in the hour in which it is caught", post.lift(0), 9);
            post.passHours(24);
            CHECKS.same("later", post.lift(0), 9);
            CHECKS.same("it stays caught", post.stateOf(0), BalloonPost.CAUGHT);
        });
    }

    private static void leaks() {
        String leak = "Then, if the hour plus 1 is divisible by the leak (1 to 9 hours, 3 at first), each balloon that is flying still loses 1 of "
                + "its lift if that is greater than 1;";
        TERMS.test(leak, () -> {
            for (int hours = 1; hours <= 9; hours++) {
                BalloonPost post = Checks.after("street 8;leak " + hours + ";balloon 0 30 9;launch 0;");
                for (int hour = 1; hour <= 19; hour++) {
                    post.passHours(1);
                    CHECKS.same("a leak of " + hours + " after " + hour, post.lift(0), 30 - hour / hours);
                }
            }
        });
        TERMS.test(leak, () -> {
            BalloonPost post = Checks.after("street 8;balloon 0 30 9;launch 0;hours 2;");
            CHECKS.same("two hours of the first leak", post.lift(0), 30);
            post.passHours(1);
            CHECKS.same("three hours of the first leak", post.lift(0), 29);
            CHECKS.same("it is", post.setLeak(1), 3);
        });
        TERMS.test(leak, () -> {
            BalloonPost post = Checks.after("street 8;");
            CHECKS.takesRange("a leak of", 1, 9, post::setLeak);
            CHECKS.refusesOutside("a leak of", 1, 9, IllegalArgumentException.class, post::setLeak);
        });
        TERMS.test(leak, () -> {
            BalloonPost post = Checks.after("street 8;leak 1;balloon 0 9 9;balloon 0 9 9;launch 1;hours 2;");
            CHECKS.same("a moored one loses nothing", post.lift(0), 9);
            CHECKS.same("a flying one does", post.lift(1), 7);
        });
        TERMS.test(leak, () -> {
            BalloonPost post = Checks.after("street 8;leak 1;balloon 0 3 9;balloon 0 2 9;balloon 0 1 9;launch 0;launch 1;launch 2;hours 1;");
            CHECKS.same("3 becomes 2", post.lift(0), 2);
            CHECKS.same("2 becomes 1", post.lift(1), 1);
            CHECKS.same("still flying", post.stateOf(1), BalloonPost.FLYING);
            CHECKS.same("1 stays 1", post.lift(2), 1);
        });
        TERMS.test(leak, () -> {
            BalloonPost post = Checks.after("street 8;leak 1;gust east 1;roof 1 5;balloon 0 5 9;launch 0;hours 1;");
            CHECKS.same("it is carried with the lift before the leak", post.placeOf(0), 1);
        });
    }

    private static void sinking() {
        String sinks = "if its load is not less than its lift then, it sinks:";
        TERMS.test(sinks, () -> {
            BalloonPost post = Checks.after("street 8;leak 1;balloon 0 5 9;parcel 3 0 1 1;tie 0 0;launch 0;hours 1;");
            CHECKS.same("a lift of 4, a load of 3", post.stateOf(0), BalloonPost.FLYING);
            post.passHours(1);
            CHECKS.same("a lift of 3, a load of 3", post.stateOf(0), BalloonPost.MOORED);
        });
        TERMS.test(sinks, () -> {
            BalloonPost post = Checks.after("street 8;leak 1;balloon 0 2 9;parcel 1 0 1 1;tie 0 0;launch 0;hours 1;");
            CHECKS.same("a lift of 1, a load of 1", post.stateOf(0), BalloonPost.MOORED);
            CHECKS.same("lift", post.lift(0), 1);
            CHECKS.same("load", post.load(0), 0);
        });
        TERMS.test("it is moored and relieved.", () -> {
            BalloonPost post = Checks.after("street 8;leak 1;gust east 2;balloon 0 9 9;parcel 3 0 7 1;parcel 5 0 7 2;tie 0 0;tie 1 0;launch 0;hours 1;");
            CHECKS.same("moored", post.stateOf(0), BalloonPost.MOORED);
            CHECKS.same("where it was carried to", post.placeOf(0), 2);
            CHECKS.same("relieved", post.load(0), 3);
            CHECKS.same("what fell off", post.parcelsAt(2), 2);
            post.passHours(5);
            CHECKS.same("it loses no more lift", post.lift(0), 8);
        });
        String lastLift = "A flying balloon with a lift of 1 sinks, too, when it should lose 1.";
        TERMS.test(lastLift, () -> {
            BalloonPost post = Checks.after("street 8;leak 2;balloon 0 1 9;launch 0;hours 1;");
            CHECKS.same("no leak yet", post.stateOf(0), BalloonPost.FLYING);
            post.passHours(1);
            CHECKS.same("the leak", post.stateOf(0), BalloonPost.MOORED);
            CHECKS.same("its lift stays", post.lift(0), 1);
            CHECKS.same("violations", post.violations(), 0);
        });
        TERMS.test(lastLift, () -> {
            BalloonPost post = Checks.after("street 8;leak 1;balloon 0 2 9;launch 0;hours 1;");
            CHECKS.same("a lift of 2 becomes 1: it flies", post.stateOf(0), BalloonPost.FLYING);
            post.passHours(1);
            CHECKS.same("a lift of 1: it sinks", post.stateOf(0), BalloonPost.MOORED);
        });
    }

    private static BalloonPost caught(int lift) {
        return Checks.after("street 8;leak 9;tree 1 9;gust east 1;balloon 0 " + lift + " 9;launch 0;hours 1;");
    }

    private static void freeing() {
        TERMS.under("Terms: Freeing");
        TERMS.test("A caught balloon can be freed:", () -> {
            BalloonPost post = Checks.after("street 8;balloon 0 9 9;");
            CHECKS.throwsState("a moored one", () -> post.free(0));
            post.launch(0);
            CHECKS.throwsState("a flying one", () -> post.free(0));
            BalloonPost caught = caught(9);
            CHECKS.same("a caught one", caught.free(0), 0);
            CHECKS.throwsState("a freed one", () -> caught.free(0));
        });
        String loses = "it is moored at its place and loses 2 of its lift, but not more than with which a lift of 1 is left;";
        int[] lifts = {1, 1, 1, 2, 3};
        for (int i = 0; i < lifts.length; i++) {
            int before = i + 1;
            int after = lifts[i];
            TERMS.test(loses, () -> {
                BalloonPost post = caught(before);
                post.free(0);
                CHECKS.same("a lift of " + before, post.lift(0), after);
                CHECKS.same("moored", post.stateOf(0), BalloonPost.MOORED);
                CHECKS.same("place", post.placeOf(0), 1);
                CHECKS.same("violations", post.violations(), 0);
            });
        }
        TERMS.test(loses, () -> {
            BalloonPost post = caught(30);
            post.free(0);
            CHECKS.same("a lift of 30", post.lift(0), 28);
        });
        TERMS.test("then it is relieved.", () -> {
            BalloonPost post = Checks.after("street 8;tree 1 9;gust east 1;balloon 0 9 9;parcel 8 0 7 1;tie 0 0;launch 0;hours 1;");
            CHECKS.same("a lift of 7, a load of 8", post.free(0), 1);
            CHECKS.same("load", post.load(0), 0);
        });
    }

    private static void gas() {
        TERMS.under("Terms: Gas");
        TERMS.test("The gas is 50 at first.", () -> {
            BalloonPost post = Checks.after("street 8;repeat 2(balloon 0 1 9;);");
            CHECKS.same("gas", post.gas(), 50);
            post.fill(0, 29);
            CHECKS.throwsState("50 - 29 - 22", () -> post.fill(1, 22));
            CHECKS.same("50 - 29 - 21", post.fill(1, 21), 22);
            CHECKS.same("gas", post.gas(), 0);
        });
        TERMS.test("A moored balloon can be filled with gas:", () -> {
            BalloonPost post = Checks.after("street 8;balloon 0 9 9;");
            CHECKS.same("moored", post.fill(0, 1), 10);
            post.launch(0);
            CHECKS.throwsState("flying", () -> post.fill(0, 1));
            CHECKS.throwsState("caught", () -> caught(9).fill(0, 1));
        });
        TERMS.test("its lift increases by as much, up to 30.", () -> {
            BalloonPost post = Checks.after("street 8;balloon 0 28 9;");
            CHECKS.throwsState("28 + 3", () -> post.fill(0, 3));
            CHECKS.same("28 + 2", post.fill(0, 2), 30);
            CHECKS.throwsState("30 + 1", () -> post.fill(0, 1));
            CHECKS.same("lift", post.lift(0), 30);
            CHECKS.same("gas", post.gas(), 48);
        });
    }

    private static void claims() {
        TERMS.under("Terms: Claims");
        TERMS.test("A parcel that lies at a place can be claimed there by its number.", () -> {
            BalloonPost post = Checks.after("street 8;balloon 0 9 9;parcel 1 0 1 5;parcel 1 2 1 6;tie 0 0;");
            CHECKS.throwsNoSuch("a tied one", () -> post.claim(0, 5));
            CHECKS.throwsNoSuch("one that lies a place to the west", () -> post.claim(3, 6));
            CHECKS.throwsNoSuch("one that lies a place to the east", () -> post.claim(1, 6));
            CHECKS.throwsNoSuch("another number", () -> post.claim(2, 5));
            CHECKS.throwsNoSuch("its number in the row", () -> post.claim(2, 1));
            CHECKS.same("its place and number", post.claim(2, 6), 0);
            CHECKS.throwsNoSuch("a claimed one", () -> post.claim(2, 6));
        });
        String fare = "Its fare is its weight times the distance from its origin to its destination;";
        TERMS.test(fare, () -> {
            BalloonPost post = Checks.after("street 30;parcel 1 0 1 1;parcel 1 1 0 2;parcel 9 0 29 3;parcel 9 29 0 4;parcel 1 28 29 5;parcel 4 7 2 6;");
            int[] fares = {1, 1, 261, 261, 1, 20};
            for (int parcel = 0; parcel < fares.length; parcel++) {
                CHECKS.same("fare of " + parcel, post.fare(parcel), fares[parcel]);
            }
        });
        String head = "street 8;gust east 1;balloon 0 9 9;parcel 4 0 2 5;tie 0 0;launch 0;";
        TERMS.test("it is paid if the place is the destination, and the parcel is delivered then;", () -> {
            BalloonPost post = Checks.after(head + "hours 2;moor 0;untie 0;");
            CHECKS.same("claim", post.claim(2, 5), 8);
            CHECKS.same("takings", post.takings(), 8);
            CHECKS.same("deliveredCount", post.deliveredCount(), 1);
        });
        TERMS.test("otherwise nothing is paid.", () -> {
            BalloonPost post = Checks.after(head + "hours 1;moor 0;untie 0;");
            CHECKS.same("a place in front of the destination", post.claim(1, 5), 0);
            CHECKS.same("takings", post.takings(), 0);
            CHECKS.same("deliveredCount", post.deliveredCount(), 0);
            CHECKS.same("it is claimed all the same", post.parcelState(0), BalloonPost.CLAIMED);
        });
        TERMS.test("otherwise nothing is paid.", () -> {
            BalloonPost post = Checks.after(head + "hours 3;moor 0;untie 0;");
            CHECKS.same("a place behind the destination", post.claim(3, 5), 0);
            CHECKS.same("at the origin", Checks.after("street 8;parcel 4 0 2 5;").claim(0, 5), 0);
        });
    }
}
