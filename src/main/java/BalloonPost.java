import java.util.Arrays;
import java.util.NoSuchElementException;

public final class BalloonPost {
    public static final int NONE = -1;
    public static final int MOORED = 0, FLYING = 1, CAUGHT = 2;
    public static final int LYING = 0, TIED = 1, CLAIMED = 2;
    public static final int ALLOWED = 0, NOT_LYING = 1, NOT_MOORED = 2, ELSEWHERE = 3, NO_KNOT = 4, TOO_HEAVY = 5, UNDER_TREE = 6;

    private static final int MIN_PLACES = 8, MAX_PLACES = 30, MAX_HEIGHT = 9;
    private static final int MAX_BALLOONS = 8, MAX_LIFT = 30, MAX_STRING = 9, MAX_KNOTS = 4;
    private static final int MAX_PARCELS = 16, MAX_WEIGHT = 9, MAX_NUMBER = 99;
    private static final int MAX_GUSTS = 12, MAX_GUST = 3;
    private static final int FIRST_LEAK = 3, MAX_LEAK = 9;
    private static final int FIRST_GAS = 50, MAX_GAS = 999, MAX_FILL = 29, MAX_ADDED_GAS = 200;
    private static final int MAX_HOUR = 999, MAX_HOURS = 24, LIFT_LOST_BY_FREEING = 2;
    private static final int MAX_FORESEEN = 48, MAX_FORESEEN_SINKING = 200;
    private static final int INPUT_SIZE = 600, APPENDED_BYTES = 20, MAX_REMEMBERED = 8;
    private static final String FIRST_SCRIPT = "street 12; roof 5 3; tree 8 2; roof 11 9; gust east 2; gust east 1; gust west 1; balloon 0 10 5; balloon 3 6 4; balloon 7 4 2; parcel 4 0 8 10; parcel 3 0 5 11; parcel 5 3 9 12; parcel 2 7 1 13; tie 0 0; tie 1 0; tie 2 1; launch 0; hours 1;";
    private static final Command[] COMMANDS = Command.values();

    private final World world = new World();
    private final World saved = new World();
    private final World trial = new World();
    private final History history = new History();
    private final Script script = new Script();
    private final byte[] report = new byte[MAX_PLACES];
    private int reportLength = 0;
    private boolean snapshotSaved = false;

    public BalloonPost() {
        script.tokens.fillFrom(FIRST_SCRIPT);
        script.execute();
        script.tokens.shorten(0);
        world.copyFrom(script.world);
    }

    // ---- input

    public int append(int a, int b, int c, int d, int e) {
        if (!script.tokens.hasRoomFor(APPENDED_BYTES)) {
            return NONE;
        }
        script.tokens.addFourBytes(a);
        script.tokens.addFourBytes(b);
        script.tokens.addFourBytes(c);
        script.tokens.addFourBytes(d);
        script.tokens.addFourBytes(e);
        return script.tokens.length;
    }

    public int truncateInput(int length) throws IllegalArgumentException {
        needRange(length, 0, script.tokens.length);
        script.tokens.shorten(length);
        return length;
    }

    // ---- changes

    public int runScript() {
        boolean good = script.execute();
        script.tokens.shorten(0);
        if (!good) {
            return NONE;
        }
        history.remember(world);
        world.copyFrom(script.world);
        return world.parcels.total;
    }

    public int setRoof(int place, int height) throws IndexOutOfBoundsException, IllegalArgumentException {
        needPlace(place);
        needRange(height, 0, MAX_HEIGHT);
        return change(Command.ROOF, place, height, 0, 0);
    }

    public int setTree(int place, int height) throws IndexOutOfBoundsException, IllegalArgumentException {
        needPlace(place);
        needRange(height, 0, MAX_HEIGHT);
        return change(Command.TREE, place, height, 0, 0);
    }

    public int addGust(int gust) throws IllegalArgumentException, IllegalStateException {
        needRange(gust, -MAX_GUST, MAX_GUST);
        return change(Command.GUST, gust, 0, 0, 0);
    }

    public int setLeak(int hours) throws IllegalArgumentException {
        needRange(hours, 1, MAX_LEAK);
        return change(Command.LEAK, hours, 0, 0, 0);
    }

    public int addBalloon(int place, int lift, int length) throws IndexOutOfBoundsException, IllegalArgumentException, IllegalStateException {
        needPlace(place);
        needRange(lift, 1, MAX_LIFT);
        needRange(length, 1, MAX_STRING);
        return change(Command.BALLOON, place, lift, length, 0);
    }

    public int addParcel(int weight, int origin, int destination, int number) throws IndexOutOfBoundsException, IllegalArgumentException, IllegalStateException {
        needPlace(origin);
        needPlace(destination);
        if (origin == destination) {
            throw new IllegalArgumentException("the destination is the origin");
        }
        needRange(weight, 1, MAX_WEIGHT);
        needRange(number, 0, MAX_NUMBER);
        return change(Command.PARCEL, weight, origin, destination, number);
    }

    public int tie(int parcel, int balloon) throws IndexOutOfBoundsException, IllegalStateException {
        needParcel(parcel);
        needBalloon(balloon);
        return change(Command.TIE, parcel, balloon, 0, 0);
    }

    public int untie(int parcel) throws IndexOutOfBoundsException, IllegalStateException {
        needParcel(parcel);
        return change(Command.UNTIE, parcel, 0, 0, 0);
    }

    public int launch(int balloon) throws IndexOutOfBoundsException, IllegalStateException {
        needBalloon(balloon);
        return change(Command.LAUNCH, balloon, 0, 0, 0);
    }

    public int moor(int balloon) throws IndexOutOfBoundsException, IllegalStateException {
        needBalloon(balloon);
        return change(Command.MOOR, balloon, 0, 0, 0);
    }

    public int free(int balloon) throws IndexOutOfBoundsException, IllegalStateException {
        needBalloon(balloon);
        return change(Command.FREE, balloon, 0, 0, 0);
    }

    public int fill(int balloon, int gas) throws IndexOutOfBoundsException, IllegalArgumentException, IllegalStateException {
        needBalloon(balloon);
        needRange(gas, 1, MAX_FILL);
        return change(Command.FILL, balloon, gas, 0, 0);
    }

    public int addGas(int gas) throws IllegalArgumentException, IllegalStateException {
        needRange(gas, 1, MAX_ADDED_GAS);
        return change(Command.GAS, gas, 0, 0, 0);
    }

    public int claim(int place, int number) throws IndexOutOfBoundsException, NoSuchElementException {
        needPlace(place);
        if (world.parcels.lyingWith(place, number) == NONE) {
            throw new NoSuchElementException("no parcel with this number lies there");
        }
        return change(Command.CLAIM, place, number, 0, 0);
    }

    public int passHours(int hours) throws IllegalArgumentException, IllegalStateException {
        needRange(hours, 1, MAX_HOURS);
        return change(Command.HOURS, hours, 0, 0, 0);
    }

    // ---- undo and the snapshot

    public int undo() {
        if (history.total == 0) {
            return NONE;
        }
        history.takeBack(world);
        return history.total;
    }

    public int undoCount() {
        return history.total;
    }

    public int saveSnapshot() {
        saved.copyFrom(world);
        snapshotSaved = true;
        return world.hour;
    }

    public int restoreSnapshot() throws NoSuchElementException {
        if (!snapshotSaved) {
            throw new NoSuchElementException("no snapshot was saved");
        }
        world.copyFrom(saved);
        history.forget();
        return world.hour;
    }

    // ---- the script error

    public int scriptErrorKind() {
        return script.errorKind;
    }

    public int scriptErrorOffset() {
        return script.errorOffset;
    }

    // ---- the street

    public int streetLength() {
        return world.street.places;
    }

    public int hour() {
        return world.hour;
    }

    public int gas() {
        return world.gas;
    }

    public int balloonCount() {
        return world.balloons.total;
    }

    public int parcelCount() {
        return world.parcels.total;
    }

    public int roof(int place) throws IndexOutOfBoundsException {
        needPlace(place);
        return world.street.roofs[place];
    }

    public int tree(int place) throws IndexOutOfBoundsException {
        needPlace(place);
        return world.street.trees[place];
    }

    public int gustAt(int hour) throws IllegalArgumentException {
        needRange(hour, 0, MAX_HOUR);
        return world.street.gustIn(hour);
    }

    public int parcelsAt(int place) throws IndexOutOfBoundsException {
        needPlace(place);
        return world.parcels.setLyingAt(place);
    }

    // ---- balloons

    public int placeOf(int balloon) throws IndexOutOfBoundsException {
        needBalloon(balloon);
        return world.balloons.places[balloon];
    }

    public int lift(int balloon) throws IndexOutOfBoundsException {
        needBalloon(balloon);
        return world.balloons.lifts[balloon];
    }

    public int stringLength(int balloon) throws IndexOutOfBoundsException {
        needBalloon(balloon);
        return world.balloons.strings[balloon];
    }

    public int load(int balloon) throws IndexOutOfBoundsException {
        needBalloon(balloon);
        return world.parcels.weightOn(balloon);
    }

    public int height(int balloon) throws IndexOutOfBoundsException {
        needBalloon(balloon);
        return world.heightOf(balloon);
    }

    public int stateOf(int balloon) throws IndexOutOfBoundsException {
        needBalloon(balloon);
        return world.balloons.states[balloon];
    }

    public int parcelsOf(int balloon) throws IndexOutOfBoundsException {
        needBalloon(balloon);
        return world.parcels.setOn(balloon);
    }

    public int flyingBalloons() {
        return world.balloons.setOfFlying();
    }

    // ---- parcels

    public int weight(int parcel) throws IndexOutOfBoundsException {
        needParcel(parcel);
        return world.parcels.weights[parcel];
    }

    public int destination(int parcel) throws IndexOutOfBoundsException {
        needParcel(parcel);
        return world.parcels.destinations[parcel];
    }

    public int parcelState(int parcel) throws IndexOutOfBoundsException {
        needParcel(parcel);
        return world.parcels.states[parcel];
    }

    public int balloonOf(int parcel) throws IndexOutOfBoundsException {
        needParcel(parcel);
        return world.parcels.carriers[parcel];
    }

    public int parcelPlace(int parcel) throws IndexOutOfBoundsException {
        needParcel(parcel);
        return world.placeOfParcel(parcel);
    }

    public int fare(int parcel) throws IndexOutOfBoundsException {
        needParcel(parcel);
        return world.parcels.fareOf(parcel);
    }

    public int parcelWith(int number) {
        return world.parcels.unclaimedWith(number);
    }

    // ---- reasons and choices

    public int whyNoTie(int parcel, int balloon) throws IndexOutOfBoundsException {
        needParcel(parcel);
        needBalloon(balloon);
        return world.reasonAgainstTying(parcel, balloon);
    }

    public int whyNoLaunch(int balloon) throws IndexOutOfBoundsException {
        needBalloon(balloon);
        return world.reasonAgainstLaunching(balloon);
    }

    public int heaviestFor(int balloon) throws IndexOutOfBoundsException {
        needBalloon(balloon);
        if (world.parcels.knotsOn(balloon) >= MAX_KNOTS) {
            return 0;
        }
        return Math.min(MAX_WEIGHT, world.spareLiftOf(balloon) - 1);
    }

    public int bestBalloon(int parcel) throws IndexOutOfBoundsException {
        needParcel(parcel);
        return world.tightestBalloonFor(parcel);
    }

    // ---- predictions: only hours pass

    public int placeAfter(int balloon, int hours) throws IndexOutOfBoundsException, IllegalArgumentException {
        needBalloon(balloon);
        needRange(hours, 0, MAX_FORESEEN);
        foresee(balloon, hours);
        return trial.balloons.places[balloon];
    }

    public int stateAfter(int balloon, int hours) throws IndexOutOfBoundsException, IllegalArgumentException {
        needBalloon(balloon);
        needRange(hours, 0, MAX_FORESEEN);
        foresee(balloon, hours);
        return trial.balloons.states[balloon];
    }

    public int hoursToSink(int balloon) throws IndexOutOfBoundsException {
        needBalloon(balloon);
        trial.copyFrom(world);
        for (int passed = 1; passed <= MAX_FORESEEN_SINKING; passed++) {
            if (!trial.balloons.isFlying(balloon)) {
                return NONE;
            }
            trial.passHourOf(balloon);
            // In a prediction only sinking moors a balloon.
            if (trial.balloons.isMoored(balloon)) {
                return passed;
            }
        }
        return NONE;
    }

    public int hoursToDestination(int parcel) throws IndexOutOfBoundsException {
        needParcel(parcel);
        int goal = world.parcels.destinations[parcel];
        // The carrier before the hours pass: where it sinks, the parcel stays, tied or lying.
        int carrier = world.parcels.carriers[parcel];
        trial.copyFrom(world);
        for (int passed = 0; passed <= MAX_FORESEEN; passed++) {
            if (trial.placeOfParcel(parcel) == goal) {
                return passed;
            }
            if (!trial.balloons.has(carrier)) {
                return NONE;
            }
            trial.passHourOf(carrier);
        }
        return NONE;
    }

    // ---- accounts and checks

    public int takings() {
        return world.takings;
    }

    public int deliveredCount() {
        return world.delivered;
    }

    public double meanLift() {
        int total = world.balloons.total;
        return total == 0 ? 0.0 : (double) world.balloons.liftSum() / (double) total;
    }

    public float claimedShare() {
        int total = world.parcels.total;
        return total == 0 ? 0.0f : (float) world.parcels.claimedTotal() / (float) total;
    }

    public int violations() {
        return world.overloadedBalloons() + world.parcels.equalNumberPairs() + world.liftGap();
    }

    // ---- the report

    public int writeStreet() {
        reportLength = world.street.places;
        for (int place = 0; place < reportLength && place < report.length; place++) {
            report[place] = world.signOf(place);
        }
        return reportLength;
    }

    public int reportByte(int index) {
        if (index < 0 || index >= reportLength || index >= report.length) {
            return NONE;
        }
        return report[index];
    }

    // ---- what the calls have in common

    private void needPlace(int place) {
        if (!world.street.hasPlace(place)) {
            throw new IndexOutOfBoundsException("no such place");
        }
    }

    private void needBalloon(int balloon) {
        if (!world.balloons.has(balloon)) {
            throw new IndexOutOfBoundsException("no such balloon");
        }
    }

    private void needParcel(int parcel) {
        if (!world.parcels.has(parcel)) {
            throw new IndexOutOfBoundsException("no such parcel");
        }
    }

    private static void needRange(int value, int lowest, int highest) {
        if (value < lowest || value > highest) {
            throw new IllegalArgumentException("out of range");
        }
    }

    /** Its numbers have been tested: only the state of things can still refuse it. */
    private int change(Command command, int a, int b, int c, int d) {
        if (world.refuses(command, a, b, d)) {
            throw new IllegalStateException("refused");
        }
        history.remember(world);
        return world.carryOut(command, a, b, c, d);
    }

    private void foresee(int balloon, int hours) {
        trial.copyFrom(world);
        for (int passed = 0; passed < hours; passed++) {
            trial.passHourOf(balloon);
        }
    }

    /** The places and what depends on them alone. */
    private static final class Street {
        final int[] roofs = new int[MAX_PLACES];
        final int[] trees = new int[MAX_PLACES];
        final int[] gusts = new int[MAX_GUSTS];
        int places = 0;
        int gustTotal = 0;
        int leak = FIRST_LEAK;

        void clear(int length) {
            Arrays.fill(roofs, 0);
            Arrays.fill(trees, 0);
            places = length;
            gustTotal = 0;
            leak = FIRST_LEAK;
        }

        void copyFrom(Street other) {
            System.arraycopy(other.roofs, 0, roofs, 0, MAX_PLACES);
            System.arraycopy(other.trees, 0, trees, 0, MAX_PLACES);
            System.arraycopy(other.gusts, 0, gusts, 0, MAX_GUSTS);
            places = other.places;
            gustTotal = other.gustTotal;
            leak = other.leak;
        }

        boolean hasPlace(int place) {
            return place >= 0 && place < places && place < MAX_PLACES;
        }

        int changeRoof(int place, int height) {
            int previous = roofs[place];
            roofs[place] = height;
            return previous;
        }

        int changeTree(int place, int height) {
            int previous = trees[place];
            trees[place] = height;
            return previous;
        }

        int changeLeak(int hours) {
            int previous = leak;
            leak = hours;
            return previous;
        }

        boolean isFullOfGusts() {
            return gustTotal >= MAX_GUSTS;
        }

        int appendGust(int gust) {
            gusts[gustTotal] = gust;
            gustTotal++;
            return gustTotal;
        }

        int gustIn(int hour) {
            return gustTotal <= 0 ? 0 : gusts[Math.floorMod(hour, gustTotal)];
        }

        boolean leaksIn(int hour) {
            return leak > 0 && (hour + 1) % leak == 0;
        }
    }

    /** What a balloon is without its parcels. */
    private static final class Balloons {
        final int[] places = new int[MAX_BALLOONS];
        final int[] lifts = new int[MAX_BALLOONS];
        final int[] strings = new int[MAX_BALLOONS];
        final int[] states = new int[MAX_BALLOONS];
        int total = 0;

        void copyFrom(Balloons other) {
            System.arraycopy(other.places, 0, places, 0, MAX_BALLOONS);
            System.arraycopy(other.lifts, 0, lifts, 0, MAX_BALLOONS);
            System.arraycopy(other.strings, 0, strings, 0, MAX_BALLOONS);
            System.arraycopy(other.states, 0, states, 0, MAX_BALLOONS);
            total = other.total;
        }

        boolean has(int balloon) {
            return balloon >= 0 && balloon < total && balloon < MAX_BALLOONS;
        }

        boolean isFull() {
            return total >= MAX_BALLOONS;
        }

        int appendBalloon(int place, int lift, int string) {
            places[total] = place;
            lifts[total] = lift;
            strings[total] = string;
            states[total] = MOORED;
            total++;
            return total - 1;
        }

        boolean isMoored(int balloon) {
            return states[balloon] == MOORED;
        }

        boolean isFlying(int balloon) {
            return states[balloon] == FLYING;
        }

        boolean isCaught(int balloon) {
            return states[balloon] == CAUGHT;
        }

        int setOfFlying() {
            int set = 0;
            for (int balloon = 0; balloon < total; balloon++) {
                if (isFlying(balloon)) {
                    set |= 1 << balloon;
                }
            }
            return set;
        }

        int liftSum() {
            int sum = 0;
            for (int balloon = 0; balloon < total; balloon++) {
                sum += lifts[balloon];
            }
            return sum;
        }

        int firstAt(int place) {
            for (int balloon = 0; balloon < total; balloon++) {
                if (places[balloon] == place) {
                    return balloon;
                }
            }
            return NONE;
        }
    }

    /** A parcel has a carrier only while it is tied, and a place of its own only while it lies. */
    private static final class Parcels {
        final int[] weights = new int[MAX_PARCELS];
        final int[] origins = new int[MAX_PARCELS];
        final int[] destinations = new int[MAX_PARCELS];
        final int[] numbers = new int[MAX_PARCELS];
        final int[] states = new int[MAX_PARCELS];
        final int[] carriers = new int[MAX_PARCELS];
        final int[] places = new int[MAX_PARCELS];
        int total = 0;

        void copyFrom(Parcels other) {
            System.arraycopy(other.weights, 0, weights, 0, MAX_PARCELS);
            System.arraycopy(other.origins, 0, origins, 0, MAX_PARCELS);
            System.arraycopy(other.destinations, 0, destinations, 0, MAX_PARCELS);
            System.arraycopy(other.numbers, 0, numbers, 0, MAX_PARCELS);
            System.arraycopy(other.states, 0, states, 0, MAX_PARCELS);
            System.arraycopy(other.carriers, 0, carriers, 0, MAX_PARCELS);
            System.arraycopy(other.places, 0, places, 0, MAX_PARCELS);
            total = other.total;
        }

        boolean has(int parcel) {
            return parcel >= 0 && parcel < total && parcel < MAX_PARCELS;
        }

        boolean isFull() {
            return total >= MAX_PARCELS;
        }

        int appendParcel(int weight, int origin, int destination, int number) {
            int parcel = total;
            weights[parcel] = weight;
            origins[parcel] = origin;
            destinations[parcel] = destination;
            numbers[parcel] = number;
            layDown(parcel, origin);
            total++;
            return parcel;
        }

        void layDown(int parcel, int place) {
            states[parcel] = LYING;
            carriers[parcel] = NONE;
            places[parcel] = place;
        }

        void fasten(int parcel, int balloon) {
            states[parcel] = TIED;
            carriers[parcel] = balloon;
            places[parcel] = NONE;
        }

        void handOver(int parcel) {
            states[parcel] = CLAIMED;
            carriers[parcel] = NONE;
            places[parcel] = NONE;
        }

        int fareOf(int parcel) {
            return weights[parcel] * Math.abs(origins[parcel] - destinations[parcel]);
        }

        int setOn(int balloon) {
            int set = 0;
            for (int parcel = 0; parcel < total; parcel++) {
                if (carriers[parcel] == balloon) {
                    set |= 1 << parcel;
                }
            }
            return set;
        }

        int knotsOn(int balloon) {
            return Integer.bitCount(setOn(balloon));
        }

        int weightOn(int balloon) {
            int sum = 0;
            for (int parcel = 0; parcel < total; parcel++) {
                if (carriers[parcel] == balloon) {
                    sum += weights[parcel];
                }
            }
            return sum;
        }

        int heaviestOn(int balloon) {
            int heaviest = NONE;
            int weight = 0;
            for (int parcel = 0; parcel < total; parcel++) {
                if (carriers[parcel] == balloon && weights[parcel] > weight) {
                    heaviest = parcel;
                    weight = weights[parcel];
                }
            }
            return heaviest;
        }

        int setLyingAt(int place) {
            int set = 0;
            for (int parcel = 0; parcel < total; parcel++) {
                if (states[parcel] == LYING && places[parcel] == place) {
                    set |= 1 << parcel;
                }
            }
            return set;
        }

        int lyingWith(int place, int number) {
            for (int parcel = 0; parcel < total; parcel++) {
                if (states[parcel] == LYING && places[parcel] == place && numbers[parcel] == number) {
                    return parcel;
                }
            }
            return NONE;
        }

        int unclaimedWith(int number) {
            for (int parcel = 0; parcel < total; parcel++) {
                if (states[parcel] != CLAIMED && numbers[parcel] == number) {
                    return parcel;
                }
            }
            return NONE;
        }

        int claimedTotal() {
            int claimed = 0;
            for (int parcel = 0; parcel < total; parcel++) {
                if (states[parcel] == CLAIMED) {
                    claimed++;
                }
            }
            return claimed;
        }

        int equalNumberPairs() {
            int pairs = 0;
            for (int second = 0; second < total; second++) {
                for (int first = 0; first < second; first++) {
                    boolean unclaimed = states[first] != CLAIMED && states[second] != CLAIMED;
                    if (unclaimed && numbers[first] == numbers[second]) {
                        pairs++;
                    }
                }
            }
            return pairs;
        }
    }

    /** Everything that undo restores. Callers have tested the numbers that they hand in. */
    private static final class World {
        final Street street = new Street();
        final Balloons balloons = new Balloons();
        final Parcels parcels = new Parcels();
        int hour = 0;
        int gas = FIRST_GAS;
        int takings = 0;
        int delivered = 0;
        int liftAdded = 0;
        int gasFilled = 0;
        int liftLost = 0;

        void clear(int length) {
            street.clear(length);
            balloons.total = 0;
            parcels.total = 0;
            hour = 0;
            gas = FIRST_GAS;
            takings = 0;
            delivered = 0;
            liftAdded = 0;
            gasFilled = 0;
            liftLost = 0;
        }

        void copyFrom(World other) {
            street.copyFrom(other.street);
            balloons.copyFrom(other.balloons);
            parcels.copyFrom(other.parcels);
            hour = other.hour;
            gas = other.gas;
            takings = other.takings;
            delivered = other.delivered;
            liftAdded = other.liftAdded;
            gasFilled = other.gasFilled;
            liftLost = other.liftLost;
        }

        /** Tells whether the method of the command would throw an IllegalStateException. */
        boolean refuses(Command command, int a, int b, int d) {
            switch (command) {
                case GUST: return street.isFullOfGusts();
                case BALLOON: return balloons.isFull();
                case PARCEL: return parcels.isFull() || parcels.unclaimedWith(d) != NONE;
                case TIE: return reasonAgainstTying(a, b) != ALLOWED;
                case UNTIE: return !hangsOnMooredBalloon(a);
                case LAUNCH: return reasonAgainstLaunching(a) != ALLOWED;
                case MOOR: return !balloons.isFlying(a);
                case FREE: return !balloons.isCaught(a);
                case FILL: return !canTakeGas(a, b);
                case GAS: return gas + a > MAX_GAS;
                case HOURS: return hour + a > MAX_HOUR;
                default: return false;
            }
        }

        /** Carries out a command that is not refused, and answers what its method returns. */
        int carryOut(Command command, int a, int b, int c, int d) {
            switch (command) {
                case ROOF: return street.changeRoof(a, b);
                case TREE: return street.changeTree(a, b);
                case GUST: return street.appendGust(a);
                case LEAK: return street.changeLeak(a);
                case BALLOON: return placeBalloon(a, b, c);
                case PARCEL: return parcels.appendParcel(a, b, c, d);
                case TIE: return tieParcel(a, b);
                case UNTIE: return untieParcel(a);
                case LAUNCH: return launchBalloon(a);
                case MOOR: return moorBalloon(a);
                case FREE: return freeBalloon(a);
                case FILL: return fillBalloon(a, b);
                case GAS: return storeGas(a);
                case CLAIM: return claimParcel(a, b);
                case HOURS: return letHoursPass(a);
                default: return NONE;
            }
        }

        int spareLiftOf(int balloon) {
            return balloons.lifts[balloon] - parcels.weightOn(balloon);
        }

        int heightOf(int balloon) {
            return Math.min(balloons.strings[balloon], balloons.lifts[balloon] - parcels.weightOn(balloon));
        }

        int placeOfParcel(int parcel) {
            int carrier = parcels.carriers[parcel];
            return balloons.has(carrier) ? balloons.places[carrier] : parcels.places[parcel];
        }

        int reasonAgainstTying(int parcel, int balloon) {
            if (parcels.states[parcel] != LYING) {
                return NOT_LYING;
            }
            if (!balloons.isMoored(balloon)) {
                return NOT_MOORED;
            }
            if (parcels.places[parcel] != balloons.places[balloon]) {
                return ELSEWHERE;
            }
            if (parcels.knotsOn(balloon) >= MAX_KNOTS) {
                return NO_KNOT;
            }
            return parcels.weights[parcel] >= spareLiftOf(balloon) ? TOO_HEAVY : ALLOWED;
        }

        int reasonAgainstLaunching(int balloon) {
            if (!balloons.isMoored(balloon)) {
                return NOT_MOORED;
            }
            return catches(balloons.places[balloon], heightOf(balloon)) ? UNDER_TREE : ALLOWED;
        }

        boolean hangsOnMooredBalloon(int parcel) {
            int carrier = parcels.carriers[parcel];
            return balloons.has(carrier) && balloons.isMoored(carrier);
        }

        boolean canTakeGas(int balloon, int amount) {
            return balloons.isMoored(balloon) && amount <= gas && balloons.lifts[balloon] + amount <= MAX_LIFT;
        }

        int tightestBalloonFor(int parcel) {
            int best = NONE;
            int spare = 0;
            for (int balloon = 0; balloon < balloons.total; balloon++) {
                boolean allowed = reasonAgainstTying(parcel, balloon) == ALLOWED;
                if (allowed && (best == NONE || spareLiftOf(balloon) < spare)) {
                    best = balloon;
                    spare = spareLiftOf(balloon);
                }
            }
            return best;
        }

        int placeBalloon(int place, int lift, int string) {
            liftAdded += lift;
            return balloons.appendBalloon(place, lift, string);
        }

        int tieParcel(int parcel, int balloon) {
            parcels.fasten(parcel, balloon);
            return parcels.weightOn(balloon);
        }

        int untieParcel(int parcel) {
            int carrier = parcels.carriers[parcel];
            parcels.layDown(parcel, placeOfParcel(parcel));
            return carrier;
        }

        int launchBalloon(int balloon) {
            balloons.states[balloon] = FLYING;
            return heightOf(balloon);
        }

        int moorBalloon(int balloon) {
            balloons.states[balloon] = MOORED;
            return balloons.places[balloon];
        }

        int freeBalloon(int balloon) {
            moorBalloon(balloon);
            loseLift(balloon, Math.min(LIFT_LOST_BY_FREEING, balloons.lifts[balloon] - 1));
            return relieve(balloon);
        }

        int fillBalloon(int balloon, int amount) {
            gas -= amount;
            gasFilled += amount;
            balloons.lifts[balloon] += amount;
            return balloons.lifts[balloon];
        }

        int storeGas(int amount) {
            gas += amount;
            return gas;
        }

        int claimParcel(int place, int number) {
            int parcel = parcels.lyingWith(place, number);
            if (!parcels.has(parcel)) {
                return 0;
            }
            parcels.handOver(parcel);
            if (place != parcels.destinations[parcel]) {
                return 0;
            }
            delivered++;
            takings += parcels.fareOf(parcel);
            return parcels.fareOf(parcel);
        }

        int letHoursPass(int hours) {
            for (int passed = 0; passed < hours; passed++) {
                for (int balloon = 0; balloon < balloons.total; balloon++) {
                    drift(balloon);
                }
                for (int balloon = 0; balloon < balloons.total; balloon++) {
                    leakFrom(balloon);
                }
                hour++;
            }
            return hour;
        }

        /** Enough to predict one balloon: balloons do not hinder each other. */
        void passHourOf(int balloon) {
            drift(balloon);
            leakFrom(balloon);
            hour++;
        }

        void drift(int balloon) {
            int gust = street.gustIn(hour);
            int step = gust < 0 ? -1 : 1;
            int height = heightOf(balloon);
            for (int moved = 0; moved < Math.abs(gust) && balloons.isFlying(balloon); moved++) {
                int next = balloons.places[balloon] + step;
                if (!street.hasPlace(next) || street.roofs[next] > height) {
                    return;
                }
                balloons.places[balloon] = next;
                if (catches(next, height)) {
                    balloons.states[balloon] = CAUGHT;
                }
            }
        }

        boolean catches(int place, int height) {
            return street.hasPlace(place) && street.trees[place] >= height;
        }

        void leakFrom(int balloon) {
            if (!balloons.isFlying(balloon) || !street.leaksIn(hour)) {
                return;
            }
            boolean lastLift = balloons.lifts[balloon] <= 1;
            if (!lastLift) {
                loseLift(balloon, 1);
            }
            if (lastLift || spareLiftOf(balloon) <= 0) {
                moorBalloon(balloon);
                relieve(balloon);
            }
        }

        void loseLift(int balloon, int amount) {
            balloons.lifts[balloon] -= amount;
            liftLost += amount;
        }

        /** Lets parcels fall off until the load is less than the lift; answers how many. */
        int relieve(int balloon) {
            int load = parcels.weightOn(balloon);
            int fallen = 0;
            while (fallen < MAX_PARCELS && load >= balloons.lifts[balloon]) {
                int parcel = parcels.heaviestOn(balloon);
                if (!parcels.has(parcel)) {
                    return fallen;
                }
                load -= parcels.weights[parcel];
                parcels.layDown(parcel, balloons.places[balloon]);
                fallen++;
            }
            return fallen;
        }

        int overloadedBalloons() {
            int found = 0;
            for (int balloon = 0; balloon < balloons.total; balloon++) {
                if (spareLiftOf(balloon) <= 0 || parcels.knotsOn(balloon) > MAX_KNOTS) {
                    found++;
                }
            }
            return found;
        }

        int liftGap() {
            return Math.abs(liftAdded + gasFilled - balloons.liftSum() - liftLost);
        }

        byte signOf(int place) {
            int balloon = balloons.firstAt(place);
            if (balloon != NONE) {
                return (byte) ('0' + balloon);
            }
            if (parcels.setLyingAt(place) != 0) {
                return 'p';
            }
            if (street.trees[place] > 0) {
                return 't';
            }
            return street.roofs[place] > 0 ? (byte) 'r' : (byte) '.';
        }
    }

    /** The worlds before the latest changes, in a ring. */
    private static final class History {
        final World[] past = new World[MAX_REMEMBERED];
        int latest = 0;
        int total = 0;

        History() {
            for (int i = 0; i < MAX_REMEMBERED; i++) {
                past[i] = new World();
            }
        }

        void remember(World world) {
            latest = (latest + 1) % MAX_REMEMBERED;
            past[latest].copyFrom(world);
            total = Math.min(total + 1, MAX_REMEMBERED);
        }

        void takeBack(World world) {
            world.copyFrom(past[latest]);
            latest = (latest + MAX_REMEMBERED - 1) % MAX_REMEMBERED;
            total--;
        }

        void forget() {
            total = 0;
        }
    }

    /** The commands of a script, each with its word and the kinds of its parameters (see Script). */
    private enum Command {
        ROOF("roof", "ph"),
        TREE("tree", "ph"),
        GUST("gust", "dg"),
        LEAK("leak", "l"),
        BALLOON("balloon", "pus"),
        PARCEL("parcel", "wpon"),
        TIE("tie", "cb"),
        UNTIE("untie", "c"),
        LAUNCH("launch", "b"),
        MOOR("moor", "b"),
        FREE("free", "b"),
        FILL("fill", "bf"),
        GAS("gas", "a"),
        CLAIM("claim", "pk"),
        HOURS("hours", "t");

        final String word;
        final String parameters;

        Command(String word, String parameters) {
            this.word = word;
            this.parameters = parameters;
        }
    }

    /** The input buffer and the token that was read from it last. */
    private static final class Tokens {
        static final int END = 0, WORD = 1, NUMBER = 2, OPEN = 3, CLOSE = 4, SEMICOLON = 5, WRONG = 6;
        static final int MAX_DIGITS = 3;

        final byte[] text = new byte[INPUT_SIZE];
        int length = 0;
        int start = 0;
        int next = 0;
        int kind = END;
        int value = 0;

        boolean hasRoomFor(int bytes) {
            return length + bytes <= INPUT_SIZE;
        }

        void addByte(int value) {
            if (hasRoomFor(1)) {
                text[length] = (byte) value;
                length++;
            }
        }

        void addFourBytes(int value) {
            addByte(value >>> 24);
            addByte(value >>> 16);
            addByte(value >>> 8);
            addByte(value);
        }

        void shorten(int newLength) {
            length = newLength;
        }

        void fillFrom(String source) {
            length = 0;
            for (int i = 0; i < source.length(); i++) {
                addByte(source.charAt(i));
            }
        }

        void goTo(int offset) {
            next = offset;
        }

        void read() {
            while (next < length && isBlank(text[next])) {
                next++;
            }
            start = next;
            if (next >= length) {
                kind = END;
            } else if (isLetter(text[next])) {
                readWord();
            } else if (isDigit(text[next])) {
                readNumber();
            } else {
                kind = kindOfMark(text[next]);
                next++;
            }
        }

        void readWord() {
            while (next < length && isLetter(text[next])) {
                next++;
            }
            kind = WORD;
        }

        void readNumber() {
            value = 0;
            while (next < length && isDigit(text[next])) {
                value = value * 10 + text[next] - '0';
                next++;
            }
            kind = next - start > MAX_DIGITS ? WRONG : NUMBER;
        }

        boolean isWord(String word) {
            if (kind != WORD || next - start != word.length()) {
                return false;
            }
            for (int i = 0; i < word.length(); i++) {
                if (text[start + i] != word.charAt(i)) {
                    return false;
                }
            }
            return true;
        }

        static boolean isBlank(int sign) {
            return sign == ' ' || sign == '\n';
        }

        static boolean isLetter(int sign) {
            return sign >= 'a' && sign <= 'z';
        }

        static boolean isDigit(int sign) {
            return sign >= '0' && sign <= '9';
        }

        static int kindOfMark(int sign) {
            switch (sign) {
                case '(': return OPEN;
                case ')': return CLOSE;
                case ';': return SEMICOLON;
                default: return WRONG;
            }
        }
    }

    /** Executes the input buffer in a world of its own, so that an error leaves the real one as it is. */
    private static final class Script {
        // The kinds of parameters, as the letters in Command tell them.
        static final char PLACE = 'p', OTHER_PLACE = 'o', HEIGHT = 'h', DIRECTION = 'd', GUST = 'g', LEAK = 'l';
        static final char LIFT = 'u', STRING = 's', WEIGHT = 'w', NUMBER = 'n', PARCEL = 'c', BALLOON = 'b';
        static final char FILLING = 'f', ADDED_GAS = 'a', CLAIMED_NUMBER = 'k', TIME = 't', ROUNDS = 'r', LENGTH = 'e';

        static final int NOT_ALLOWED = 1, OUT_OF_RANGE = 2, REFUSED = 3, TOO_DEEP = 4, TOO_MANY = 5;
        static final int MAX_PARAMETERS = 4, MAX_DEPTH = 2, MAX_ROUNDS = 20, MAX_COMMANDS = 200;
        // 600 bytes of repeats without commands make some 20,000 steps.
        static final int STEP_LIMIT = 1000000;

        final Tokens tokens = new Tokens();
        final World world = new World();
        final int[] values = new int[MAX_PARAMETERS];
        final int[] bodies = new int[MAX_DEPTH];
        final int[] rounds = new int[MAX_DEPTH];
        int depth = 0;
        int executed = 0;
        int errorKind = 0;
        int errorOffset = NONE;

        boolean execute() {
            depth = 0;
            executed = 0;
            errorKind = 0;
            errorOffset = NONE;
            tokens.goTo(0);
            boolean goesOn = runHead();
            for (int step = 0; goesOn && step < STEP_LIMIT; step++) {
                tokens.read();
                if (tokens.kind == Tokens.END && depth == 0) {
                    goesOn = false;
                } else if (tokens.kind == Tokens.CLOSE && depth > 0) {
                    goesOn = endRound();
                } else if (tokens.isWord("repeat")) {
                    goesOn = beginRepeat();
                } else {
                    goesOn = runCommand(commandHere());
                }
            }
            return errorKind == 0;
        }

        /** Answers false: the script does not go on. */
        boolean fail(int kind) {
            errorKind = kind;
            errorOffset = tokens.start;
            return false;
        }

        boolean runHead() {
            tokens.read();
            if (!tokens.isWord("street")) {
                return fail(NOT_ALLOWED);
            }
            if (!readNumber(LENGTH)) {
                return false;
            }
            int length = tokens.value;
            if (!readMark(Tokens.SEMICOLON)) {
                return false;
            }
            world.clear(length);
            return true;
        }

        Command commandHere() {
            for (int i = 0; i < COMMANDS.length; i++) {
                if (tokens.isWord(COMMANDS[i].word)) {
                    return COMMANDS[i];
                }
            }
            return null;
        }

        boolean beginRepeat() {
            if (depth >= MAX_DEPTH) {
                return fail(TOO_DEEP);
            }
            if (!readNumber(ROUNDS)) {
                return false;
            }
            rounds[depth] = tokens.value;
            if (!readMark(Tokens.OPEN)) {
                return false;
            }
            bodies[depth] = tokens.next;
            depth++;
            return true;
        }

        boolean endRound() {
            int open = depth - 1;
            rounds[open]--;
            if (rounds[open] > 0) {
                tokens.goTo(bodies[open]);
                return true;
            }
            depth = open;
            return readMark(Tokens.SEMICOLON);
        }

        boolean runCommand(Command command) {
            if (command == null) {
                return fail(NOT_ALLOWED);
            }
            if (executed >= MAX_COMMANDS) {
                return fail(TOO_MANY);
            }
            for (int i = 0; i < command.parameters.length() && i < MAX_PARAMETERS; i++) {
                if (!readParameter(command.parameters.charAt(i), i)) {
                    return false;
                }
            }
            if (!readMark(Tokens.SEMICOLON)) {
                return false;
            }
            if (world.refuses(command, values[0], values[1], values[3])) {
                return fail(REFUSED);
            }
            world.carryOut(command, values[0], values[1], values[2], values[3]);
            executed++;
            return true;
        }

        boolean readMark(int kind) {
            tokens.read();
            return tokens.kind == kind || fail(NOT_ALLOWED);
        }

        boolean readParameter(char kind, int index) {
            if (kind == DIRECTION) {
                return readDirection(index);
            }
            if (!readNumber(kind)) {
                return false;
            }
            if (kind == GUST) {
                values[0] *= tokens.value;
            } else {
                values[index] = tokens.value;
            }
            return true;
        }

        boolean readDirection(int index) {
            tokens.read();
            values[index] = tokens.isWord("west") ? -1 : 1;
            return tokens.isWord("west") || tokens.isWord("east") || fail(NOT_ALLOWED);
        }

        boolean readNumber(char kind) {
            tokens.read();
            if (tokens.kind != Tokens.NUMBER) {
                return fail(NOT_ALLOWED);
            }
            return suits(kind, tokens.value) || fail(OUT_OF_RANGE);
        }

        boolean suits(char kind, int value) {
            if (kind == OTHER_PLACE && value == values[1]) {
                return false;
            }
            if (kind == CLAIMED_NUMBER && world.parcels.lyingWith(values[0], value) == NONE) {
                return false;
            }
            return value >= lowest(kind) && value <= highest(kind);
        }

        int lowest(char kind) {
            switch (kind) {
                case LEAK:
                case LIFT:
                case STRING:
                case WEIGHT:
                case FILLING:
                case ADDED_GAS:
                case TIME:
                case ROUNDS: return 1;
                case LENGTH: return MIN_PLACES;
                default: return 0;
            }
        }

        int highest(char kind) {
            switch (kind) {
                case PLACE:
                case OTHER_PLACE: return world.street.places - 1;
                case PARCEL: return world.parcels.total - 1;
                case BALLOON: return world.balloons.total - 1;
                case HEIGHT: return MAX_HEIGHT;
                case GUST: return MAX_GUST;
                case LEAK: return MAX_LEAK;
                case LIFT: return MAX_LIFT;
                case STRING: return MAX_STRING;
                case WEIGHT: return MAX_WEIGHT;
                case FILLING: return MAX_FILL;
                case ADDED_GAS: return MAX_ADDED_GAS;
                case TIME: return MAX_HOURS;
                case ROUNDS: return MAX_ROUNDS;
                case LENGTH: return MAX_PLACES;
                default: return MAX_NUMBER;
            }
        }
    }
}
