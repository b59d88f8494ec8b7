import java.util.function.IntSupplier;

/** What the tests have in common: counting wrong answers, and feeding scripts into the input buffer. */
public final class Checks {
    private static final int CHUNK = 20;

    private final String group;
    private int made = 0;
    private int wrong = 0;

    public Checks(String group) {
        this.group = group;
    }

    public void same(String what, long got, long want) {
        count(got == want, what, String.valueOf(got), String.valueOf(want));
    }

    public void sameDouble(String what, double got, double want) {
        count(Double.compare(got, want) == 0, what, String.valueOf(got), String.valueOf(want));
    }

    public void throwsIndex(String what, IntSupplier call) {
        same(what, IndexOutOfBoundsException.class, call);
    }

    public void throwsArgument(String what, IntSupplier call) {
        same(what, IllegalArgumentException.class, call);
    }

    public void throwsState(String what, IntSupplier call) {
        same(what, IllegalStateException.class, call);
    }

    public void throwsNoSuch(String what, IntSupplier call) {
        same(what, java.util.NoSuchElementException.class, call);
    }

    /** The very class: a subclass would be one that the machine throws. */
    private void same(String what, Class<?> want, IntSupplier call) {
        String got;
        try {
            got = String.valueOf(call.getAsInt());
        } catch (RuntimeException e) {
            got = e.getClass().getName();
        }
        count(got.equals(want.getName()), what, got, want.getName());
    }

    private void count(boolean right, String what, String got, String want) {
        made++;
        if (!right) {
            wrong++;
            System.out.println(group + ": " + what + " answered " + got + ", due is " + want);
        }
    }

    public void finish() {
        System.out.println(group + ": " + made + " checks, " + wrong + " wrong");
        if (wrong != 0) {
            System.exit(1);
        }
    }

    /** Puts the text behind what the input buffer holds; answers the new length. */
    public static int feed(BalloonPost post, String text) {
        int length = 0;
        for (int from = 0; from < text.length(); from += CHUNK) {
            length = post.append(word(text, from), word(text, from + 4), word(text, from + 8),
                    word(text, from + 12), word(text, from + 16));
        }
        int surplus = (CHUNK - text.length() % CHUNK) % CHUNK;
        return surplus == 0 ? length : post.truncateInput(length - surplus);
    }

    private static int word(String text, int from) {
        int word = 0;
        for (int i = from; i < from + 4; i++) {
            word = word << 8 | (i < text.length() ? text.charAt(i) & 255 : 0);
        }
        return word;
    }

    public static int run(BalloonPost post, String script) {
        feed(post, script);
        return post.runScript();
    }

    /** A new object on which the script, which has to be a good one, was executed. */
    public static BalloonPost after(String script) {
        BalloonPost post = new BalloonPost();
        if (run(post, script) == BalloonPost.NONE) {
            throw new AssertionError("kind " + post.scriptErrorKind() + " at " + post.scriptErrorOffset() + ": " + script);
        }
        return post;
    }

    /** Everything that a caller can read of the state that undo restores. */
    public static String stateOf(BalloonPost post) {
        StringBuilder text = new StringBuilder();
        text.append(post.streetLength()).append(' ').append(post.hour()).append(' ').append(post.gas());
        text.append(' ').append(post.takings()).append(' ').append(post.deliveredCount());
        text.append(' ').append(post.meanLift()).append(' ').append(post.claimedShare());
        text.append(' ').append(post.violations()).append(' ').append(post.flyingBalloons());
        for (int hour = 0; hour < 12 * 11; hour++) {
            text.append(hour == 0 ? "\ngusts " : ",").append(post.gustAt(hour));
        }
        for (int place = 0; place < post.streetLength(); place++) {
            text.append("\nplace ").append(post.roof(place)).append(' ').append(post.tree(place));
            text.append(' ').append(post.parcelsAt(place));
        }
        for (int balloon = 0; balloon < post.balloonCount(); balloon++) {
            text.append("\nballoon ").append(post.placeOf(balloon)).append(' ').append(post.lift(balloon));
            text.append(' ').append(post.stringLength(balloon)).append(' ').append(post.load(balloon));
            text.append(' ').append(post.height(balloon)).append(' ').append(post.stateOf(balloon));
            text.append(' ').append(post.parcelsOf(balloon)).append(' ').append(post.whyNoLaunch(balloon));
            text.append(' ').append(post.hoursToSink(balloon)).append(' ').append(post.placeAfter(balloon, 48));
        }
        for (int parcel = 0; parcel < post.parcelCount(); parcel++) {
            text.append("\nparcel ").append(post.weight(parcel)).append(' ').append(post.destination(parcel));
            text.append(' ').append(post.parcelState(parcel)).append(' ').append(post.balloonOf(parcel));
            text.append(' ').append(post.parcelPlace(parcel)).append(' ').append(post.fare(parcel));
            text.append(' ').append(post.hoursToDestination(parcel));
        }
        for (int number = 0; number < 100; number++) {
            text.append(number == 0 ? "\nnumbers " : ",").append(post.parcelWith(number));
        }
        return text.toString();
    }

    public void sameText(String what, String got, String want) {
        count(got.equals(want), what, got, want);
    }
}
