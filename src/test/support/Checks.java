import java.util.function.IntSupplier;
import java.util.function.IntUnaryOperator;
import java.util.function.ToIntBiFunction;
import java.util.function.ToIntFunction;

/** What the tests have in common: counting wrong answers, and feeding scripts into the input buffer. */
public final class Checks {
    private static final int CHUNK = 20;
    private static final String FEWEST_THINGS = "street 8;";
    private static final String SOME_THINGS = "street 12;balloon 1 9 9;balloon 11 9 9;balloon 5 9 9;parcel 1 1 0 1;parcel 2 11 0 2;";
    private static final String MOST_THINGS = "street 30;repeat 8(balloon 29 9 9;);repeat 15(parcel 1 0 1 7;claim 0 7;);parcel 1 29 1 7;tie 15 7;";

    private final String group;
    private int made = 0;
    private int wrong = 0;

    public Checks(String group) {
        this.group = group;
    }

    public void same(String what, long got, long want) {
        count(got == want, what, String.valueOf(got), String.valueOf(want));
    }

    public void sameDouble(String what, double got, double want) {
        count(Double.compare(got, want) == 0, what, String.valueOf(got), String.valueOf(want));
    }

    public void throwsIndex(String what, IntSupplier call) {
        refuses(what, IndexOutOfBoundsException.class, call);
    }

    public void throwsArgument(String what, IntSupplier call) {
        refuses(what, IllegalArgumentException.class, call);
    }

    public void throwsState(String what, IntSupplier call) {
        refuses(what, IllegalStateException.class, call);
    }

    public void throwsNoSuch(String what, IntSupplier call) {
        refuses(what, java.util.NoSuchElementException.class, call);
    }

    /** The very class: a subclass would be one that the machine throws. */
    public void refuses(String what, Class<?> want, IntSupplier call) {
        sameText(what, exceptionOf(call), want.getName());
    }

    private static String exceptionOf(IntSupplier call) {
        try {
            call.getAsInt();
            return "no exception";
        } catch (RuntimeException e) {
            return e.getClass().getName();
        }
    }

    private void count(boolean right, String what, String got, String want) {
        made++;
        if (!right) {
            wrong++;
            System.out.println(group + ": " + what + " answered " + got + ", due is " + want);
        }
    }

    /** Both ends of a range are taken. */
    public void takesRange(String what, int low, int high, IntUnaryOperator call) {
        for (int value : new int[] {low, high}) {
            sameText(what + " " + value + " is taken", exceptionOf(() -> call.applyAsInt(value)), "no exception");
        }
    }

    /** What lies outside of a range is refused with this exception. */
    public void refusesOutside(String what, int low, int high, Class<?> want, IntUnaryOperator call) {
        for (int value : new int[] {low - 1, high + 1, Integer.MIN_VALUE, Integer.MAX_VALUE}) {
            refuses(what + " " + value, want, () -> call.applyAsInt(value));
        }
    }

    /** Whatever else a call refuses: the number of a thing is taken as an index, and what lies outside of all of them is not. */
    public void needsIndex(String what, ToIntFunction<BalloonPost> count, ToIntBiFunction<BalloonPost, Integer> call) {
        for (String script : new String[] {FEWEST_THINGS, SOME_THINGS, MOST_THINGS}) {
            int things = count.applyAsInt(after(script));
            refusesOutside(what + " of " + things, 0, things - 1, IndexOutOfBoundsException.class, number -> call.applyAsInt(after(script), number));
            for (int number = 0; number < things; number++) {
                int index = number;
                String exception = exceptionOf(() -> call.applyAsInt(after(script), index));
                same(what + " " + number + " of " + things + " is an index", exception.contains("IndexOutOfBounds") ? 0 : 1, 1);
            }
        }
    }

    /** The script is executed on a new object without an error. */
    public void good(String script) {
        BalloonPost post = new BalloonPost();
        int answer = run(post, script);
        same(script + ": kind", post.scriptErrorKind(), 0);
        same(script + ": offset", post.scriptErrorOffset(), -1);
        same(script + ": answer", answer, post.parcelCount());
        same(script + ": undoCount", post.undoCount(), 1);
    }

    /** The sign ^ stands in front of the token at which the error is due, and is no part of the script. */
    public void bad(int kind, String marked) {
        bad(kind, marked.indexOf('^'), marked.replace("^", ""));
    }

    /** The script, on a new object, has this error at this offset. */
    public void bad(int kind, int offset, String script) {
        BalloonPost post = new BalloonPost();
        same(script + ": answer", run(post, script), -1);
        same(script + ": kind", post.scriptErrorKind(), kind);
        same(script + ": offset", post.scriptErrorOffset(), offset);
        same(script + ": undoCount", post.undoCount(), 0);
    }

    public int made() {
        return made;
    }

    public void finish() {
        System.out.println(group + ": " + made + " checks, " + wrong + " wrong");
        if (wrong != 0) {
            System.exit(1);
        }
    }

    /** Puts the text behind what the input buffer holds; answers the new length. */
    public static int feed(BalloonPost post, String text) {
        int length = 0;
        for (int from = 0; from < text.length(); from += CHUNK) {
            length = post.append(word(text, from), word(text, from + 4), word(text, from + 8),
                    word(text, from + 12), word(text, from + 16));
        }
        int surplus = (CHUNK - text.length() % CHUNK) % CHUNK;
        return surplus == 0 ? length : post.truncateInput(length - surplus);
    }

    private static int word(String text, int from) {
        int word = 0;
        for (int i = from; i < from + 4; i++) {
            word = word << 8 | (i < text.length() ? text.charAt(i) & 255 : 0);
        }
        return word;
    }

    public static int run(BalloonPost post, String script) {
        feed(post, script);
        return post.runScript();
    }

    /** A new object on which the script, which has to be a good one, was executed. */
    public static BalloonPost after(String script) {
        BalloonPost post = new BalloonPost();
        if (run(post, script) == BalloonPost.NONE) {
            throw new AssertionError("kind " + post.scriptErrorKind() + " at " + post.scriptErrorOffset() + ": " + script);
        }
        return post;
    }

    /** Everything that a caller can read of the state that undo restores. */
    public static String stateOf(BalloonPost post) {
        StringBuilder text = new StringBuilder();
        text.append(post.streetLength()).append(' ').append(post.hour()).append(' ').append(post.gas());
        text.append(' ').append(post.takings()).append(' ').append(post.deliveredCount());
        text.append(' ').append(post.meanLift()).append(' ').append(post.claimedShare());
        text.append(' ').append(post.violations()).append(' ').append(post.flyingBalloons());
        // Two rows of at most 12 gusts that are alike for 12 + 12 - 1 hours are alike for ever.
        for (int hour = 0; hour < 23; hour++) {
            text.append(hour == 0 ? "\ngusts " : ",").append(post.gustAt(hour));
        }
        for (int place = 0; place < post.streetLength(); place++) {
            text.append("\nplace ").append(post.roof(place)).append(' ').append(post.tree(place));
            text.append(' ').append(post.parcelsAt(place));
        }
        for (int balloon = 0; balloon < post.balloonCount(); balloon++) {
            text.append("\nballoon ").append(post.placeOf(balloon)).append(' ').append(post.lift(balloon));
            text.append(' ').append(post.stringLength(balloon)).append(' ').append(post.load(balloon));
            text.append(' ').append(post.height(balloon)).append(' ').append(post.stateOf(balloon));
            text.append(' ').append(post.parcelsOf(balloon)).append(' ').append(post.whyNoLaunch(balloon));
            text.append(' ').append(post.hoursToSink(balloon)).append(' ').append(post.placeAfter(balloon, 48));
        }
        for (int parcel = 0; parcel < post.parcelCount(); parcel++) {
            text.append("\nparcel ").append(post.weight(parcel)).append(' ').append(post.destination(parcel));
            text.append(' ').append(post.parcelState(parcel)).append(' ').append(post.balloonOf(parcel));
            text.append(' ').append(post.parcelPlace(parcel)).append(' ').append(post.fare(parcel));
            text.append(' ').append(post.hoursToDestination(parcel));
        }
        for (int number = 0; number < 100; number++) {
            text.append(number == 0 ? "\nnumbers " : ",").append(post.parcelWith(number));
        }
        return text.toString();
    }

    public void sameText(String what, String got, String want) {
        count(got.equals(want), what, got, want);
    }
}
