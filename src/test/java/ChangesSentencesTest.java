import java.util.NoSuchElementException;
import java.util.function.IntSupplier;
import java.util.function.ToIntFunction;

/** What the document says of the input, of changes and of undo, sentence by sentence: each boundary case has a test of its own. */
public final class ChangesSentencesTest {
    private static final Checks CHECKS = new Checks("ChangesSentencesTest");
    private static final Sentences CHANGES = new Sentences(CHECKS, "Terms: Undo", "Promise 20");
    private static final Class<? extends RuntimeException> INDEX = IndexOutOfBoundsException.class;
    private static final Class<? extends RuntimeException> ARGUMENT = IllegalArgumentException.class;
    private static final Class<? extends RuntimeException> STATE = IllegalStateException.class;
    private static final Class<? extends RuntimeException> NO_SUCH = NoSuchElementException.class;
    private static final String WRONG_PLACE = "Throws `IndexOutOfBoundsException` if `place` is not the number of a place";
    private static final String WRONG_BALLOON = "Throws `IndexOutOfBoundsException` if `balloon` is not the number of a balloon";
    private static final String WRONG_PARCEL = "Throws `IndexOutOfBoundsException` if `parcel` is not the number of a parcel";
    private static final String NEITHER = "Throws `IndexOutOfBoundsException` if `parcel` or `balloon` does not exist";
    private static final String CAUGHT = "street 8;tree 1 9;gust east 1;balloon 0 9 9;parcel 8 0 7 5;tie 0 0;launch 0;hours 1;";
    private static final String LAST_HOUR = "street 8;repeat 20(hours 24;hours 24;);hours 24;hours 15;";

    public static void main(String[] args) {
        whatChangesAre();
        whatCanBeUndone();
        latestEight();
        whatUndoingRestores();
        exceptionsChangeNothing();
        exceptionsInTheirOrder();
        sets();
        constants();
        newObject();
        append();
        truncateInput();
        runScript();
        heights();
        addGust();
        setLeak();
        addBalloon();
        addParcel();
        tie();
        untie();
        launch();
        moor();
        free();
        fill();
        addGas();
        claim();
        passHours();
        CHANGES.finish();
    }

    // ---- undo, under "Terms"

    /** Each change with an object on which it is possible; the script runs through the input buffer. */
    private static void whatChangesAre() {
        CHANGES.under("Terms: Undo");
        String changes = "The methods from `runScript` to `passHours` are changes.";
        isChange(changes, "runScript", "street 8;", post -> Checks.run(post, "street 9;"));
        isChange(changes, "setRoof", "street 8;", post -> post.setRoof(0, 1));
        isChange(changes, "setTree", "street 8;", post -> post.setTree(0, 1));
        isChange(changes, "addGust", "street 8;", post -> post.addGust(1));
        isChange(changes, "setLeak", "street 8;balloon 0 9 9;launch 0;", post -> post.setLeak(1));
        isChange(changes, "addBalloon", "street 8;", post -> post.addBalloon(0, 1, 1));
        isChange(changes, "addParcel", "street 8;", post -> post.addParcel(1, 0, 1, 0));
        isChange(changes, "tie", "street 8;balloon 0 9 9;parcel 1 0 1 0;", post -> post.tie(0, 0));
        isChange(changes, "untie", "street 8;balloon 0 9 9;parcel 1 0 1 0;tie 0 0;", post -> post.untie(0));
        isChange(changes, "launch", "street 8;balloon 0 9 9;", post -> post.launch(0));
        isChange(changes, "moor", "street 8;balloon 0 9 9;launch 0;", post -> post.moor(0));
        isChange(changes, "free", CAUGHT, post -> post.free(0));
        isChange(changes, "fill", "street 8;balloon 0 9 9;", post -> post.fill(0, 1));
        isChange(changes, "addGas", "street 8;", post -> post.addGas(1));
        isChange(changes, "claim", "street 8;parcel 1 0 1 0;", post -> post.claim(0, 0));
        isChange(changes, "passHours", "street 8;", post -> post.passHours(1));
        CHANGES.test(changes, () -> {
            BalloonPost post = new BalloonPost();
            post.append(0, 0, 0, 0, 0);
            post.truncateInput(1);
            post.saveSnapshot();
            post.writeStreet();
            post.placeAfter(0, 48);
            CHECKS.same("other methods are none", post.undoCount(), 0);
        });
    }

    private static void isChange(String sentence, String name, String script, ToIntFunction<BalloonPost> change) {
        CHANGES.test(sentence, () -> {
            String before = Checks.stateOf(Checks.after(script));
            BalloonPost post = Checks.after(script);
            change.applyAsInt(post);
            CHECKS.same(name + " can be undone", post.undo(), 1);
            CHECKS.sameText(name + " is undone", Checks.stateOf(post), before);
        });
    }

    private static void whatCanBeUndone() {
        String can = "Each call of a change that does not throw an exception, and each successful script, can be undone, the latest one first;";
        CHANGES.test(can, () -> {
            BalloonPost post = new BalloonPost();
            post.setRoof(5, 3);
            CHECKS.same("also a change to the same height", post.undoCount(), 1);
            post.setLeak(3);
            CHECKS.same("also a change to the same leak", post.undoCount(), 2);
        });
        CHANGES.test(can, () -> {
            BalloonPost post = new BalloonPost();
            CHECKS.throwsArgument("addGas 0", () -> post.addGas(0));
            CHECKS.throwsState("untie 3", () -> post.untie(3));
            CHECKS.throwsIndex("launch 3", () -> post.launch(3));
            CHECKS.throwsNoSuch("claim 0 0", () -> post.claim(0, 0));
            CHECKS.same("not a call that throws", post.undoCount(), 0);
        });
        CHANGES.test(can, () -> {
            BalloonPost post = new BalloonPost();
            Checks.run(post, "street 8;gas 1;oops");
            CHECKS.same("not a script with an error", post.undo(), -1);
            Checks.run(post, "street 8;gas 1;gas 1;repeat 5(gas 1;);");
            CHECKS.same("a successful script is one change", post.undoCount(), 1);
        });
        CHANGES.test(can, () -> {
            BalloonPost post = new BalloonPost();
            post.addGas(1);
            post.addGas(2);
            post.addGas(4);
            post.undo();
            CHECKS.same("the latest one first", post.gas(), 53);
            post.undo();
            CHECKS.same("then the one before", post.gas(), 51);
            post.addGas(8);
            post.undo();
            post.undo();
            CHECKS.same("a change behind an undo is undone before those in front of it", post.gas(), 50);
            CHECKS.same("nothing is left", post.undo(), -1);
        });
    }

    private static void latestEight() {
        String eight = "the latest 8 are remembered.";
        for (int changes : new int[] {7, 8, 9, 16, 17, 20}) {
            CHANGES.test(eight, () -> {
                BalloonPost post = new BalloonPost();
                for (int i = 1; i <= changes; i++) {
                    post.addGas(1);
                }
                int remembered = Math.min(8, changes);
                CHECKS.same("undoCount after " + changes, post.undoCount(), remembered);
                for (int left = remembered - 1; left >= 0; left--) {
                    CHECKS.same("undo", post.undo(), left);
                    CHECKS.same("gas", post.gas(), 50 + changes - remembered + left);
                }
                CHECKS.same("no more", post.undo(), -1);
                CHECKS.same("gas", post.gas(), 50 + changes - remembered);
            });
        }
        CHANGES.test(eight, () -> {
            BalloonPost post = new BalloonPost();
            for (int i = 1; i <= 8; i++) {
                post.addGas(1);
            }
            post.undo();
            post.addGas(10);
            post.addGas(10);
            CHECKS.same("8 again", post.undoCount(), 8);
            for (int i = 0; i < 8; i++) {
                post.undo();
            }
            CHECKS.same("the first one is forgotten", post.gas(), 51);
        });
    }

    private static void whatUndoingRestores() {
        String except = "Undoing restores everything except the input buffer, the script error, the report and the snapshot.";
        CHANGES.test(except, () -> {
            BalloonPost post = new BalloonPost();
            post.addGas(1);
            post.append(0, 0, 0, 0, 0);
            post.undo();
            CHECKS.same("the input buffer", post.append(0, 0, 0, 0, 0), 40);
            Checks.run(post, "");
            post.undo();
            CHECKS.throwsArgument("what a script took out of it does not come back", () -> post.truncateInput(1));
        });
        CHANGES.test(except, () -> {
            BalloonPost post = new BalloonPost();
            post.addGas(1);
            Checks.run(post, "street 7;");
            post.undo();
            CHECKS.same("the error's kind", post.scriptErrorKind(), 2);
            CHECKS.same("the error's offset", post.scriptErrorOffset(), 7);
            Checks.run(post, "street 8;");
            post.undo();
            CHECKS.same("no error", post.scriptErrorKind(), 0);
            CHECKS.same("no offset", post.scriptErrorOffset(), -1);
        });
        CHANGES.test(except, () -> {
            BalloonPost post = new BalloonPost();
            Checks.run(post, "street 8;");
            post.writeStreet();
            post.undo();
            CHECKS.same("the report's last byte", post.reportByte(7), '.');
            CHECKS.same("the report's length", post.reportByte(8), -1);
        });
        CHANGES.test(except, () -> {
            BalloonPost post = new BalloonPost();
            post.passHours(3);
            post.saveSnapshot();
            post.undo();
            CHECKS.same("the snapshot", post.restoreSnapshot(), 4);
        });
        CHANGES.test(except, () -> {
            String before = Checks.stateOf(new BalloonPost());
            BalloonPost post = new BalloonPost();
            Checks.run(post, "street 30;leak 1;roof 0 9;tree 0 9;gust east 3;balloon 1 30 9;launch 0;gas 9;parcel 9 1 0 1;hours 24;claim 1 1;");
            post.undo();
            CHECKS.sameText("everything else", Checks.stateOf(post), before);
            CHECKS.same("the leak", post.setLeak(9), 3);
            CHECKS.same("the number of gusts", post.addGust(0), 4);
        });
    }

    /** New objects, so that each is as before but for the one call. */
    private static void exceptionsChangeNothing() {
        String nothing = "A call that throws an exception changes nothing.";
        String before = Checks.stateOf(new BalloonPost());
        changesNothing(nothing, before, ARGUMENT, post -> post.truncateInput(1));
        changesNothing(nothing, before, INDEX, post -> post.setRoof(12, 1));
        changesNothing(nothing, before, ARGUMENT, post -> post.setRoof(5, 10));
        changesNothing(nothing, before, INDEX, post -> post.setTree(12, 1));
        changesNothing(nothing, before, ARGUMENT, post -> post.setTree(8, -1));
        changesNothing(nothing, before, ARGUMENT, post -> post.addGust(4));
        changesNothing(nothing, before, ARGUMENT, post -> post.setLeak(0));
        changesNothing(nothing, before, INDEX, post -> post.addBalloon(12, 1, 1));
        changesNothing(nothing, before, ARGUMENT, post -> post.addBalloon(0, 31, 1));
        changesNothing(nothing, before, ARGUMENT, post -> post.addBalloon(0, 30, 10));
        changesNothing(nothing, before, INDEX, post -> post.addParcel(1, 0, 12, 1));
        changesNothing(nothing, before, ARGUMENT, post -> post.addParcel(1, 0, 0, 1));
        changesNothing(nothing, before, STATE, post -> post.addParcel(1, 0, 1, 13));
        changesNothing(nothing, before, INDEX, post -> post.tie(3, 3));
        changesNothing(nothing, before, STATE, post -> post.tie(3, 1));
        changesNothing(nothing, before, INDEX, post -> post.untie(4));
        changesNothing(nothing, before, STATE, post -> post.untie(0));
        changesNothing(nothing, before, INDEX, post -> post.launch(3));
        changesNothing(nothing, before, STATE, post -> post.launch(0));
        changesNothing(nothing, before, INDEX, post -> post.moor(3));
        changesNothing(nothing, before, STATE, post -> post.moor(1));
        changesNothing(nothing, before, INDEX, post -> post.free(3));
        changesNothing(nothing, before, STATE, post -> post.free(0));
        changesNothing(nothing, before, INDEX, post -> post.fill(3, 1));
        changesNothing(nothing, before, ARGUMENT, post -> post.fill(1, 30));
        changesNothing(nothing, before, STATE, post -> post.fill(1, 25));
        changesNothing(nothing, before, ARGUMENT, post -> post.addGas(201));
        changesNothing(nothing, before, INDEX, post -> post.claim(12, 13));
        changesNothing(nothing, before, NO_SUCH, post -> post.claim(7, 12));
        changesNothing(nothing, before, ARGUMENT, post -> post.passHours(25));
        changesNothing(nothing, before, NO_SUCH, post -> post.restoreSnapshot());
        CHANGES.test(nothing, () -> {
            BalloonPost post = Checks.after(LAST_HOUR);
            CHECKS.throwsState("passHours", () -> post.passHours(1));
            CHECKS.same("hour", post.hour(), 999);
            CHECKS.same("undo goes to the state before the script", post.undo(), 0);
            CHECKS.same("hour", post.hour(), 1);
        });
    }

    private static void changesNothing(String sentence, String before, Class<?> exception, ToIntFunction<BalloonPost> call) {
        CHANGES.test(sentence, () -> {
            BalloonPost post = new BalloonPost();
            CHECKS.refuses("the call", exception, () -> call.applyAsInt(post));
            CHECKS.sameText("the state", Checks.stateOf(post), before);
            CHECKS.same("undoCount", post.undoCount(), 0);
        });
    }

    private static void exceptionsInTheirOrder() {
        BalloonPost full = Checks.after("street 8;repeat 8(balloon 0 9 9;);repeat 12(gust east 1;);repeat 16(parcel 1 0 1 5;claim 0 5;);"
                + "repeat 4(gas 200;);gas 149;launch 0;");
        BalloonPost late = Checks.after(LAST_HOUR);
        BalloonPost post = new BalloonPost();
        first(INDEX, () -> post.setRoof(12, 10));
        first(INDEX, () -> post.setTree(-1, -1));
        first(ARGUMENT, () -> full.addGust(4));
        first(STATE, () -> full.addGust(3));
        first(INDEX, () -> full.addBalloon(8, 0, 0));
        first(ARGUMENT, () -> full.addBalloon(7, 0, 1));
        first(ARGUMENT, () -> full.addBalloon(7, 1, 0));
        first(STATE, () -> full.addBalloon(7, 1, 1));
        first(INDEX, () -> full.addParcel(0, 8, 8, 100));
        first(INDEX, () -> full.addParcel(0, 8, 0, 100));
        first(INDEX, () -> full.addParcel(0, 0, 8, 100));
        first(ARGUMENT, () -> full.addParcel(0, 0, 1, 1));
        first(ARGUMENT, () -> full.addParcel(1, 1, 1, 1));
        first(ARGUMENT, () -> full.addParcel(1, 0, 1, 100));
        first(STATE, () -> full.addParcel(1, 0, 1, 99));
        first(ARGUMENT, () -> post.addParcel(1, 3, 3, 10));
        first(ARGUMENT, () -> post.addParcel(10, 3, 4, 10));
        first(STATE, () -> post.addParcel(9, 3, 4, 10));
        first(INDEX, () -> post.tie(4, 0));
        first(INDEX, () -> post.tie(0, 3));
        first(INDEX, () -> full.fill(8, 0));
        first(ARGUMENT, () -> full.fill(0, 0));
        first(ARGUMENT, () -> full.fill(0, 30));
        first(STATE, () -> full.fill(0, 29));
        first(ARGUMENT, () -> full.addGas(201));
        first(ARGUMENT, () -> full.addGas(0));
        first(STATE, () -> full.addGas(1));
        first(INDEX, () -> post.claim(12, 99));
        first(NO_SUCH, () -> post.claim(11, 99));
        first(ARGUMENT, () -> late.passHours(25));
        first(ARGUMENT, () -> late.passHours(0));
        first(STATE, () -> late.passHours(24));
        first(INDEX, () -> post.placeAfter(3, 49));
        first(ARGUMENT, () -> post.placeAfter(2, 49));
        first(INDEX, () -> post.stateAfter(-1, -1));
        first(ARGUMENT, () -> post.stateAfter(0, -1));
    }

    private static void first(Class<?> exception, IntSupplier call) {
        CHANGES.test("If several exceptions apply to a call, the one that is listed first is thrown.", () -> CHECKS.refuses("the call", exception, call));
    }

    private static void sets() {
        String sum = "Sets are returned as the sum of 2 to the power of the numbers of their elements.";
        CHANGES.test(sum, () -> {
            BalloonPost post = Checks.after("street 8;balloon 0 9 9;");
            CHECKS.same("no flying balloons", post.flyingBalloons(), 0);
            CHECKS.same("no parcels at a place", post.parcelsAt(0), 0);
            CHECKS.same("no parcels of a balloon", post.parcelsOf(0), 0);
        });
        CHANGES.test(sum, () -> {
            BalloonPost post = Checks.after("street 8;repeat 8(balloon 0 9 9;);");
            for (int balloon = 0; balloon < 8; balloon++) {
                post.launch(balloon);
            }
            CHECKS.same("all balloons", post.flyingBalloons(), 255);
            for (int balloon = 1; balloon < 8; balloon++) {
                post.moor(balloon - 1);
            }
            CHECKS.same("the last balloon", post.flyingBalloons(), 128);
        });
        CHANGES.test(sum, () -> {
            BalloonPost post = Checks.after("street 8;");
            for (int parcel = 0; parcel < 16; parcel++) {
                post.addParcel(1, 7, 0, parcel);
            }
            CHECKS.same("all parcels", post.parcelsAt(7), 65535);
            post.addBalloon(7, 9, 9);
            for (int parcel = 12; parcel < 16; parcel++) {
                post.tie(parcel, 0);
            }
            CHECKS.same("the last four parcels", post.parcelsOf(0), 61440);
        });
    }

    private static void constants() {
        CHANGES.under("Terms: The constants");
        CHANGES.test("Returned if there is no such value.", () -> CHECKS.same("NONE", BalloonPost.NONE, -1));
        CHANGES.namesNoBoundary("The states of a balloon.", "The states of a parcel.");
        CHANGES.test("The reasons for refusals, and 0 if there is none.", () -> {
            CHECKS.same("ALLOWED", BalloonPost.ALLOWED, 0);
            CHECKS.same("no reason against tying", Checks.after("street 8;balloon 0 9 9;parcel 1 0 1 0;").whyNoTie(0, 0), 0);
            CHECKS.same("no reason against launching", Checks.after("street 8;balloon 0 9 9;").whyNoLaunch(0), 0);
        });
    }

    // ---- promises 1 to 4

    private static void newObject() {
        String script = "street 12; roof 5 3; tree 8 2; roof 11 9; gust east 2; gust east 1; gust west 1; balloon 0 10 5; balloon 3 6 4; "
                + "balloon 7 4 2; parcel 4 0 8 10; parcel 3 0 5 11; parcel 5 3 9 12; parcel 2 7 1 13; tie 0 0; tie 1 0; tie 2 1; launch 0; hours 1;";
        CHANGES.under("Promise 1");
        CHANGES.test("Creates a service as by the script \"" + script + "\".",
                () -> CHECKS.sameText("state", Checks.stateOf(new BalloonPost()), Checks.stateOf(Checks.after(script))));
        String empty = "The input buffer and the report are empty, no snapshot is saved, and nothing can be undone.";
        CHANGES.test(empty, () -> CHECKS.throwsArgument("the input buffer", () -> new BalloonPost().truncateInput(1)));
        CHANGES.test(empty, () -> CHECKS.same("the first append", new BalloonPost().append(0, 0, 0, 0, 0), 20));
        CHANGES.test(empty, () -> CHECKS.same("the report", new BalloonPost().reportByte(0), -1));
        CHANGES.test(empty, () -> CHECKS.throwsNoSuch("the snapshot", () -> new BalloonPost().restoreSnapshot()));
        CHANGES.test(empty, () -> CHECKS.same("undoCount", new BalloonPost().undoCount(), 0));
        CHANGES.test(empty, () -> CHECKS.same("undo", new BalloonPost().undo(), -1));
    }

    private static void append() {
        CHANGES.under("Promise 2");
        CHANGES.test("Appends 20 bytes to the input buffer:", () -> {
            BalloonPost post = new BalloonPost();
            CHECKS.same("bytes of 0 are bytes as well", post.append(0, 0, 0, 0, 0), 20);
            CHECKS.same("behind what stands there", post.append(-1, -1, -1, -1, -1), 40);
            post.truncateInput(1);
            CHECKS.same("behind what is left", post.append(0, 0, 0, 0, 0), 21);
        });
        String first = "the four bytes of each parameter, the most significant byte first.";
        String[] parameters = {"`a`: bytes 0 to 3", "`b`: bytes 4 to 7", "`c`: bytes 8 to 11", "`d`: bytes 12 to 15", "`e`: bytes 16 to 19"};
        for (int at = 0; at < 20; at++) {
            int offset = at;
            CHANGES.test(first, () -> CHECKS.same("the only byte that is no blank", offsetOfByteAt(offset, '!'), offset));
            CHANGES.test(parameters[at / 4], () -> CHECKS.same("the only byte that is no blank", offsetOfByteAt(offset, 255), offset));
        }
        CHANGES.test(first, () -> {
            BalloonPost post = new BalloonPost();
            post.append(0x73747265, 0x65742038, 0x3b676173, 0x20313233, 0x3b202020);
            CHECKS.same("street 8;gas 123;", post.runScript(), 0);
            CHECKS.same("gas", post.gas(), 173);
        });
        String length = "Returns the new length of the buffer, or NONE (and nothing is appended) if it would be greater than 600.";
        int[] lengths = {0, 1, 579, 580, 581, 599, 600};
        int[] answers = {20, 21, 599, 600, -1, -1, -1};
        for (int i = 0; i < lengths.length; i++) {
            int before = lengths[i];
            int answer = answers[i];
            CHANGES.test(length, () -> {
                BalloonPost post = new BalloonPost();
                Checks.feed(post, " ".repeat(before));
                CHECKS.same("append to " + before, post.append(0, 0, 0, 0, 0), answer);
                int after = answer < 0 ? before : answer;
                CHECKS.throwsArgument("no longer than " + after, () -> post.truncateInput(after + 1));
                CHECKS.same("as long as " + after, post.truncateInput(after), after);
            });
        }
        CHANGES.test(length, () -> {
            BalloonPost post = new BalloonPost();
            Checks.feed(post, "street 8;" + " ".repeat(581 - 14) + "gas1;");
            post.append(-1, -1, -1, -1, -1);
            CHECKS.same("nothing of the refused bytes stands behind the script", post.runScript(), 0);
        });
    }

    /** A script of 20 bytes, all blanks but one: where its error is. */
    private static int offsetOfByteAt(int at, int sign) {
        int[] words = {0x20202020, 0x20202020, 0x20202020, 0x20202020, 0x20202020};
        int shift = 24 - at % 4 * 8;
        words[at / 4] = words[at / 4] & ~(255 << shift) | sign << shift;
        BalloonPost post = new BalloonPost();
        post.append(words[0], words[1], words[2], words[3], words[4]);
        post.runScript();
        return post.scriptErrorOffset();
    }

    private static void truncateInput() {
        CHANGES.under("Promise 3");
        CHANGES.test("Shortens the input buffer.", () -> {
            BalloonPost post = new BalloonPost();
            Checks.feed(post, "street 8;oops");
            post.truncateInput(9);
            CHECKS.same("the rest is a good script", post.runScript(), 0);
        });
        CHANGES.namesNoBoundary("`length`: the new length");
        CHANGES.test("Returns the new length.", () -> {
            BalloonPost post = new BalloonPost();
            CHECKS.same("an empty buffer", post.truncateInput(0), 0);
            Checks.feed(post, " ".repeat(600));
            CHECKS.same("the present length", post.truncateInput(600), 600);
            CHECKS.same("one less", post.truncateInput(599), 599);
            CHECKS.same("one", post.truncateInput(1), 1);
            CHECKS.same("nothing", post.truncateInput(0), 0);
        });
        String wrong = "Throws `IllegalArgumentException` if `length` is negative or greater than the present length";
        for (int present : new int[] {0, 1, 20, 599, 600}) {
            CHANGES.test(wrong, () -> {
                BalloonPost post = new BalloonPost();
                Checks.feed(post, " ".repeat(present));
                CHECKS.refusesOutside("a length of", 0, present, ARGUMENT, post::truncateInput);
                CHECKS.same("the length stays", post.truncateInput(present), present);
            });
        }
        CHANGES.test(wrong, () -> {
            BalloonPost post = new BalloonPost();
            Checks.feed(post, " ".repeat(20));
            post.truncateInput(7);
            CHECKS.throwsArgument("greater than the present length, not than the one before", () -> post.truncateInput(8));
        });
    }

    private static void runScript() {
        CHANGES.under("Promise 4");
        CHANGES.test("Executes the input buffer as a script.", () -> {
            CHECKS.same("an empty buffer has an error", new BalloonPost().runScript(), -1);
            CHECKS.good("street 8;");
        });
        CHANGES.namesNoBoundary("A script without an error replaces everything:");
        String asAtFirst = "the street is empty, the hour and all counters are 0 and the settings are as at first before its first command.";
        CHANGES.test(asAtFirst, () -> {
            BalloonPost post = Checks.after("street 9;leak 2;gust west 1;parcel 9 1 0 1;parcel 1 2 0 2;balloon 1 30 9;balloon 2 8 9;gas 5;fill 1 3;tree 2 1;"
                    + "roof 3 9;tie 0 0;launch 0;hours 3;moor 0;untie 0;claim 0 1;");
            CHECKS.same("takings", post.takings(), 9);
            CHECKS.same("gas", post.gas(), 52);
            Checks.run(post, "street 8;");
            int[] got = {post.streetLength(), post.hour(), post.gas(), post.takings(), post.deliveredCount(), post.balloonCount(), post.parcelCount(),
                post.roof(3), post.tree(2), post.gustAt(0), post.setLeak(1), post.violations(), post.parcelWith(2), post.addGust(1)};
            int[] want = {8, 0, 50, 0, 0, 0, 0, 0, 0, 0, 3, 0, -1, 1};
            for (int i = 0; i < want.length; i++) {
                CHECKS.same("value " + i, got[i], want[i]);
            }
        });
        CHANGES.test(asAtFirst, () -> CHECKS.same("the script's own leaks count from hour 0",
                Checks.after("street 8;balloon 0 9 9;launch 0;hours 2;").lift(0), 9));
        String emptied = "The input buffer is empty afterwards in every case.";
        CHANGES.test(emptied, () -> {
            BalloonPost post = Checks.after("street 8;");
            CHECKS.throwsArgument("behind a good script", () -> post.truncateInput(1));
        });
        CHANGES.test(emptied, () -> {
            BalloonPost post = new BalloonPost();
            Checks.run(post, "oops");
            CHECKS.throwsArgument("behind a script with an error", () -> post.truncateInput(1));
            CHECKS.same("the next one is appended at 0", post.append(0, 0, 0, 0, 0), 20);
        });
        String error = "If the script has an error, only the input buffer and the script error change.";
        CHANGES.test(error, () -> {
            BalloonPost post = new BalloonPost();
            Checks.run(post, "street 30;leak 1;roof 0 9;tree 0 9;gust east 3;balloon 1 30 9;launch 0;gas 9;parcel 9 1 0 1;hours 24;claim 1 1;oops");
            CHECKS.sameText("state", Checks.stateOf(post), Checks.stateOf(new BalloonPost()));
        });
        CHANGES.test(error, () -> {
            BalloonPost post = new BalloonPost();
            post.addGas(1);
            post.saveSnapshot();
            post.writeStreet();
            Checks.run(post, "street 8;leak 1;oops");
            CHECKS.same("leak", post.setLeak(3), 3);
            CHECKS.same("the report", post.reportByte(11), 'r');
            CHECKS.same("undo", post.undo(), 1);
            CHECKS.same("undo", post.undo(), 0);
            post.restoreSnapshot();
            CHECKS.same("the snapshot", post.gas(), 51);
        });
        String parcels = "Returns the number of parcels, or NONE if the script has an error.";
        CHANGES.test(parcels, () -> CHECKS.same("none", Checks.run(new BalloonPost(), "street 8;"), 0));
        CHANGES.test(parcels, () -> CHECKS.same("16, most of them claimed",
                Checks.run(new BalloonPost(), "street 8;repeat 15(parcel 1 0 1 5;claim 0 5;);parcel 1 0 1 5;"), 16));
        CHANGES.test(parcels, () -> CHECKS.same("an error behind a parcel", Checks.run(new BalloonPost(), "street 8;parcel 1 0 1 5;^"), -1));
    }

    // ---- promises 5 to 10

    private static void heights() {
        CHANGES.under("Promise 5");
        CHANGES.namesNoBoundary("Sets the height of the roof at a place.");
        CHANGES.test("`height`: 0 to 9", () -> CHECKS.takesRange("a roof of", 0, 9, height -> new BalloonPost().setRoof(0, height)));
        CHANGES.test("Returns the previous height.", () -> {
            BalloonPost post = new BalloonPost();
            CHECKS.same("0 at first", post.setRoof(0, 9), 0);
            CHECKS.same("the highest", post.setRoof(0, 0), 9);
            CHECKS.same("the lowest", post.setRoof(0, 0), 0);
            CHECKS.same("not that of the tree", post.setRoof(8, 0), 0);
        });
        CHANGES.test(WRONG_PLACE, () -> CHECKS.needsIndex("setRoof", BalloonPost::streetLength, (post, place) -> post.setRoof(place, 1)));
        CHANGES.test("Throws `IllegalArgumentException` if `height` is out of range",
                () -> CHECKS.refusesOutside("a roof of", 0, 9, ARGUMENT, height -> new BalloonPost().setRoof(0, height)));
        CHANGES.under("Promise 6");
        CHANGES.namesNoBoundary("Sets the height of the tree at a place.");
        CHANGES.test("Balloons stay as they are.", () -> {
            BalloonPost post = new BalloonPost();
            post.setTree(2, 9);
            CHECKS.same("a flying one with its height of 3", post.stateOf(0), BalloonPost.FLYING);
            post.setTree(3, 9);
            CHECKS.same("a moored one", post.stateOf(1), BalloonPost.MOORED);
            post.passHours(1);
            CHECKS.same("the flying one comes to a tree", post.stateOf(0), BalloonPost.CAUGHT);
            post.setTree(3, 0);
            CHECKS.same("a caught one whose tree is gone", post.stateOf(0), BalloonPost.CAUGHT);
        });
        CHANGES.test("`height`: 0 to 9", () -> CHECKS.takesRange("a tree of", 0, 9, height -> new BalloonPost().setTree(0, height)));
        CHANGES.test("Returns the previous height.", () -> {
            BalloonPost post = new BalloonPost();
            CHECKS.same("0 at first", post.setTree(0, 9), 0);
            CHECKS.same("the highest", post.setTree(0, 0), 9);
            CHECKS.same("the lowest", post.setTree(0, 0), 0);
            CHECKS.same("not that of the roof", post.setTree(5, 0), 0);
        });
        CHANGES.test(WRONG_PLACE, () -> CHECKS.needsIndex("setTree", BalloonPost::streetLength, (post, place) -> post.setTree(place, 1)));
        CHANGES.test("Throws `IllegalArgumentException` if `height` is out of range",
                () -> CHECKS.refusesOutside("a tree of", 0, 9, ARGUMENT, height -> new BalloonPost().setTree(0, height)));
    }

    private static void addGust() {
        CHANGES.under("Promise 7");
        CHANGES.test("Adds a gust behind the others.", () -> {
            BalloonPost post = new BalloonPost();
            post.addGust(-3);
            CHECKS.same("behind three", post.gustAt(3), -3);
            CHECKS.same("the first one stays", post.gustAt(0), 2);
        });
        CHANGES.test("`gust`: -3 to 3", () -> CHECKS.takesRange("a gust of", -3, 3, gust -> new BalloonPost().addGust(gust)));
        CHANGES.test("Returns the number of gusts.", () -> {
            CHECKS.same("the first", Checks.after("street 8;").addGust(0), 1);
            CHECKS.same("the twelfth", Checks.after("street 8;repeat 11(gust east 0;);").addGust(0), 12);
        });
        CHANGES.test("Throws `IllegalArgumentException` if `gust` is out of range",
                () -> CHECKS.refusesOutside("a gust of", -3, 3, ARGUMENT, gust -> new BalloonPost().addGust(gust)));
        CHANGES.test("Throws `IllegalStateException` if there are 12 gusts", () -> {
            BalloonPost post = Checks.after("street 8;repeat 12(gust east 1;);");
            CHECKS.throwsState("a thirteenth", () -> post.addGust(-3));
            CHECKS.same("gustAt 0", post.gustAt(0), 1);
            post.undo();
            CHECKS.same("the row before the script has room", post.addGust(1), 4);
        });
    }

    private static void setLeak() {
        CHANGES.under("Promise 8");
        CHANGES.namesNoBoundary("Sets the leak.");
        CHANGES.test("`hours`: 1 to 9", () -> CHECKS.takesRange("a leak of", 1, 9, hours -> new BalloonPost().setLeak(hours)));
        CHANGES.test("Returns the previous leak.", () -> {
            BalloonPost post = new BalloonPost();
            CHECKS.same("3 at first", post.setLeak(1), 3);
            CHECKS.same("the shortest", post.setLeak(9), 1);
            CHECKS.same("the longest", post.setLeak(1), 9);
        });
        CHANGES.test("Throws `IllegalArgumentException` if `hours` is out of range",
                () -> CHECKS.refusesOutside("a leak of", 1, 9, ARGUMENT, hours -> new BalloonPost().setLeak(hours)));
    }

    private static void addBalloon() {
        CHANGES.under("Promise 9");
        CHANGES.namesNoBoundary("Adds a balloon.");
        CHANGES.test("`lift`: 1 to 30", () -> CHECKS.takesRange("a lift of", 1, 30, lift -> new BalloonPost().addBalloon(0, lift, 9)));
        CHANGES.test("`length`: the length of its string, 1 to 9",
                () -> CHECKS.takesRange("a string of", 1, 9, length -> new BalloonPost().addBalloon(0, 30, length)));
        CHANGES.test("Returns the number of the balloon.", () -> {
            CHECKS.same("the first", Checks.after("street 8;").addBalloon(0, 1, 1), 0);
            CHECKS.same("the eighth", Checks.after("street 8;repeat 7(balloon 0 1 1;);").addBalloon(0, 1, 1), 7);
        });
        CHANGES.test(WRONG_PLACE, () -> CHECKS.needsIndex("addBalloon", BalloonPost::streetLength, (post, place) -> post.addBalloon(place, 1, 1)));
        String wrong = "Throws `IllegalArgumentException` if `lift` or `length` is out of range";
        CHANGES.test(wrong, () -> CHECKS.refusesOutside("a lift of", 1, 30, ARGUMENT, lift -> new BalloonPost().addBalloon(0, lift, 9)));
        CHANGES.test(wrong, () -> CHECKS.refusesOutside("a string of", 1, 9, ARGUMENT, length -> new BalloonPost().addBalloon(0, 30, length)));
        CHANGES.test("Throws `IllegalStateException` if there are 8 balloons", () -> {
            BalloonPost post = Checks.after("street 8;repeat 8(balloon 0 1 1;);");
            CHECKS.throwsState("a ninth", () -> post.addBalloon(0, 1, 1));
            CHECKS.same("balloonCount", post.balloonCount(), 8);
        });
    }

    private static void addParcel() {
        CHANGES.under("Promise 10");
        CHANGES.namesNoBoundary("Adds a parcel.");
        CHANGES.test("`weight`: 1 to 9", () -> CHECKS.takesRange("a weight of", 1, 9, weight -> new BalloonPost().addParcel(weight, 0, 1, 50)));
        CHANGES.test("`number`: the number on its string, 0 to 99",
                () -> CHECKS.takesRange("the number", 0, 99, number -> new BalloonPost().addParcel(1, 0, 1, number)));
        CHANGES.test("Returns the number of the parcel.", () -> {
            CHECKS.same("the first", Checks.after("street 8;").addParcel(1, 0, 1, 9), 0);
            CHECKS.same("the sixteenth", Checks.after("street 8;repeat 15(parcel 1 0 1 5;claim 0 5;);").addParcel(1, 0, 1, 9), 15);
        });
        String places = "Throws `IndexOutOfBoundsException` if `origin` or `destination` is not the number of a place";
        CHANGES.test(places, () -> CHECKS.needsIndex("origin", BalloonPost::streetLength, (post, place) -> post.addParcel(1, place, 0, 50)));
        CHANGES.test(places, () -> CHECKS.needsIndex("destination", BalloonPost::streetLength, (post, place) -> post.addParcel(1, 0, place, 50)));
        String wrong = "Throws `IllegalArgumentException` if both are the same, or `weight` or `number` is out of range";
        for (int place : new int[] {0, 5, 11}) {
            CHANGES.test(wrong, () -> CHECKS.throwsArgument("from " + place + " to itself", () -> new BalloonPost().addParcel(1, place, place, 50)));
        }
        CHANGES.test(wrong, () -> CHECKS.refusesOutside("a weight of", 1, 9, ARGUMENT, weight -> new BalloonPost().addParcel(weight, 0, 1, 50)));
        CHANGES.test(wrong, () -> CHECKS.refusesOutside("the number", 0, 99, ARGUMENT, number -> new BalloonPost().addParcel(1, 0, 1, number)));
        String refused = "Throws `IllegalStateException` if there are 16 parcels, or a parcel that is not claimed has this number";
        CHANGES.test(refused, () -> {
            BalloonPost post = Checks.after("street 8;repeat 16(parcel 1 0 1 5;claim 0 5;);");
            CHECKS.throwsState("a seventeenth, though all are claimed", () -> post.addParcel(1, 0, 1, 5));
            CHECKS.same("parcelCount", post.parcelCount(), 16);
        });
        CHANGES.test(refused, () -> {
            BalloonPost post = new BalloonPost();
            CHECKS.throwsState("the number of a tied one", () -> post.addParcel(1, 0, 1, 10));
            CHECKS.throwsState("the number of a lying one", () -> post.addParcel(1, 0, 1, 13));
            CHECKS.same("the number behind it", post.addParcel(1, 0, 1, 14), 4);
            post.claim(7, 13);
            CHECKS.same("the number of a claimed one", post.addParcel(1, 0, 1, 13), 5);
            CHECKS.throwsState("only once", () -> post.addParcel(1, 0, 1, 13));
        });
    }

    // ---- promises 11 to 16

    private static void tie() {
        CHANGES.under("Promise 11");
        CHANGES.namesNoBoundary("Ties a parcel to a balloon.");
        CHANGES.test("Returns the load of the balloon afterwards.", () -> {
            BalloonPost post = Checks.after("street 8;balloon 0 30 9;parcel 1 0 1 1;parcel 9 0 1 2;");
            CHECKS.same("the lightest alone", post.tie(0, 0), 1);
            CHECKS.same("both", post.tie(1, 0), 10);
        });
        CHANGES.test(NEITHER, () -> CHECKS.needsIndex("tie", BalloonPost::parcelCount, (post, parcel) -> post.tie(parcel, 0)));
        CHANGES.test(NEITHER, () -> CHECKS.needsIndex("tie to", BalloonPost::balloonCount, (post, balloon) -> post.tie(0, balloon)));
        String refused = "Throws `IllegalStateException` if tying is refused";
        CHANGES.test(refused, () -> CHECKS.throwsState("it does not lie: tied", () -> new BalloonPost().tie(2, 1)));
        CHANGES.test(refused, () -> {
            BalloonPost post = new BalloonPost();
            post.claim(7, 13);
            CHECKS.throwsState("it does not lie: claimed", () -> post.tie(3, 2));
        });
        CHANGES.test(refused, () -> {
            BalloonPost post = new BalloonPost();
            post.launch(2);
            CHECKS.throwsState("not moored", () -> post.tie(3, 2));
        });
        CHANGES.test(refused, () -> CHECKS.throwsState("elsewhere", () -> new BalloonPost().tie(3, 1)));
        CHANGES.test(refused, () -> {
            BalloonPost post = Checks.after("street 8;balloon 0 30 9;parcel 1 0 1 1;parcel 1 0 1 2;parcel 1 0 1 3;parcel 1 0 1 4;parcel 1 0 1 5;tie 0 0;"
                    + "tie 1 0;tie 2 0;tie 3 0;");
            CHECKS.throwsState("no knot", () -> post.tie(4, 0));
        });
        CHANGES.test(refused, () -> {
            BalloonPost post = Checks.after("street 8;balloon 0 3 9;balloon 0 2 9;parcel 2 0 1 1;");
            CHECKS.throwsState("too heavy", () -> post.tie(0, 1));
            CHECKS.same("just not too heavy", post.tie(0, 0), 2);
        });
    }

    private static void untie() {
        CHANGES.under("Promise 12");
        CHANGES.namesNoBoundary("Unties a parcel from its balloon.");
        CHANGES.test("Returns the number of the balloon.", () -> {
            CHECKS.same("the second balloon", new BalloonPost().untie(2), 1);
            CHECKS.same("the first balloon", Checks.after("street 8;balloon 0 9 9;parcel 1 0 1 1;tie 0 0;").untie(0), 0);
        });
        CHANGES.test(WRONG_PARCEL, () -> CHECKS.needsIndex("untie", BalloonPost::parcelCount, (post, parcel) -> post.untie(parcel)));
        String refused = "Throws `IllegalStateException` if it is not tied to a balloon that is moored";
        CHANGES.test(refused, () -> CHECKS.throwsState("it lies", () -> new BalloonPost().untie(3)));
        CHANGES.test(refused, () -> CHECKS.throwsState("its balloon flies", () -> new BalloonPost().untie(0)));
        CHANGES.test(refused, () -> CHECKS.throwsState("its balloon is caught", () -> Checks.after(CAUGHT).untie(0)));
        CHANGES.test(refused, () -> {
            BalloonPost post = new BalloonPost();
            post.untie(2);
            CHECKS.throwsState("it was untied", () -> post.untie(2));
            post.claim(3, 12);
            CHECKS.throwsState("it was claimed", () -> post.untie(2));
        });
    }

    private static void launch() {
        CHANGES.under("Promise 13");
        CHANGES.namesNoBoundary("Launches a balloon:");
        CHANGES.test("it is flying.", () -> {
            BalloonPost post = new BalloonPost();
            post.launch(2);
            CHECKS.same("state", post.stateOf(2), BalloonPost.FLYING);
        });
        CHANGES.test("Returns its height.", () -> {
            CHECKS.same("by its string", Checks.after("street 8;balloon 0 30 1;").launch(0), 1);
            CHECKS.same("by its lift", Checks.after("street 8;balloon 0 1 9;").launch(0), 1);
            CHECKS.same("the greatest", Checks.after("street 8;balloon 0 30 9;").launch(0), 9);
            CHECKS.same("by its load", Checks.after("street 8;balloon 0 9 9;parcel 7 0 1 1;tie 0 0;").launch(0), 2);
        });
        CHANGES.test(WRONG_BALLOON, () -> CHECKS.needsIndex("launch", BalloonPost::balloonCount, (post, balloon) -> post.launch(balloon)));
        String refused = "Throws `IllegalStateException` if launching is refused";
        CHANGES.test(refused, () -> CHECKS.throwsState("it flies", () -> new BalloonPost().launch(0)));
        CHANGES.test(refused, () -> CHECKS.throwsState("it is caught", () -> Checks.after(CAUGHT).launch(0)));
        CHANGES.test(refused, () -> {
            BalloonPost post = Checks.after("street 8;balloon 0 9 5;tree 0 5;");
            CHECKS.throwsState("a tree as high as the balloon", () -> post.launch(0));
            post.setTree(0, 4);
            CHECKS.same("a lower tree", post.launch(0), 5);
        });
    }

    private static void moor() {
        CHANGES.under("Promise 14");
        CHANGES.test("Moors a flying balloon at its place.", () -> {
            BalloonPost post = new BalloonPost();
            post.moor(0);
            CHECKS.same("state", post.stateOf(0), BalloonPost.MOORED);
            CHECKS.same("place", post.placeOf(0), 2);
            CHECKS.same("nothing falls off", post.parcelsOf(0), 3);
        });
        CHANGES.test("Returns the place.", () -> {
            CHECKS.same("the first", Checks.after("street 8;balloon 0 9 9;launch 0;").moor(0), 0);
            CHECKS.same("the last", Checks.after("street 30;balloon 29 9 9;launch 0;").moor(0), 29);
        });
        CHANGES.test(WRONG_BALLOON, () -> CHECKS.needsIndex("moor", BalloonPost::balloonCount, (post, balloon) -> post.moor(balloon)));
        String refused = "Throws `IllegalStateException` if it is not flying";
        CHANGES.test(refused, () -> CHECKS.throwsState("it is moored", () -> new BalloonPost().moor(1)));
        CHANGES.test(refused, () -> CHECKS.throwsState("it is caught", () -> Checks.after(CAUGHT).moor(0)));
        CHANGES.test(refused, () -> {
            BalloonPost post = new BalloonPost();
            post.moor(0);
            CHECKS.throwsState("it was moored", () -> post.moor(0));
        });
    }

    private static void free() {
        CHANGES.under("Promise 15");
        CHANGES.namesNoBoundary("Frees a caught balloon.");
        String fallen = "Returns the number of parcels that fall off.";
        CHANGES.test(fallen, () -> CHECKS.same("one", Checks.after(CAUGHT).free(0), 1));
        CHANGES.test(fallen, () -> CHECKS.same("none of one",
                Checks.after("street 8;tree 1 9;gust east 1;balloon 0 9 9;parcel 6 0 7 5;tie 0 0;launch 0;hours 1;").free(0), 0));
        CHANGES.test(fallen, () -> CHECKS.same("none of none", Checks.after("street 8;tree 1 9;gust east 1;balloon 0 9 9;launch 0;hours 1;").free(0), 0));
        CHANGES.test(fallen, () -> CHECKS.same("two of two: no more can fall off by a loss of 2",
                Checks.after("street 8;tree 1 9;gust east 1;balloon 0 3 9;parcel 1 0 7 5;parcel 1 0 7 6;tie 0 0;tie 1 0;launch 0;hours 1;").free(0), 2));
        CHANGES.test(WRONG_BALLOON, () -> CHECKS.needsIndex("free", BalloonPost::balloonCount, (post, balloon) -> post.free(balloon)));
        String refused = "Throws `IllegalStateException` if it is not caught";
        CHANGES.test(refused, () -> CHECKS.throwsState("it flies", () -> new BalloonPost().free(0)));
        CHANGES.test(refused, () -> CHECKS.throwsState("it is moored", () -> new BalloonPost().free(1)));
        CHANGES.test(refused, () -> {
            BalloonPost post = Checks.after(CAUGHT);
            post.free(0);
            CHECKS.throwsState("it was freed", () -> post.free(0));
        });
    }

    private static void fill() {
        CHANGES.under("Promise 16");
        CHANGES.test("Fills a balloon with gas.", () -> {
            BalloonPost post = new BalloonPost();
            post.fill(1, 1);
            CHECKS.same("its lift", post.lift(1), 7);
            CHECKS.same("the gas", post.gas(), 49);
        });
        CHANGES.test("`gas`: 1 to 29", () -> CHECKS.takesRange("gas of", 1, 29, gas -> Checks.after("street 8;balloon 0 1 1;").fill(0, gas)));
        CHANGES.test("Returns its lift afterwards.", () -> {
            BalloonPost post = Checks.after("street 8;balloon 0 1 1;");
            CHECKS.same("by 1", post.fill(0, 1), 2);
            CHECKS.same("to the greatest", post.fill(0, 28), 30);
        });
        CHANGES.test(WRONG_BALLOON, () -> CHECKS.needsIndex("fill", BalloonPost::balloonCount, (post, balloon) -> post.fill(balloon, 1)));
        CHANGES.test("Throws `IllegalArgumentException` if `gas` is out of range",
                () -> CHECKS.refusesOutside("gas of", 1, 29, ARGUMENT, gas -> Checks.after("street 8;balloon 0 1 1;").fill(0, gas)));
        String refused = "Throws `IllegalStateException` if it is not moored, there is less gas, or its lift would be greater than 30";
        CHANGES.test(refused, () -> CHECKS.throwsState("it flies", () -> new BalloonPost().fill(0, 1)));
        CHANGES.test(refused, () -> CHECKS.throwsState("it is caught", () -> Checks.after(CAUGHT).fill(0, 1)));
        CHANGES.test(refused, () -> {
            BalloonPost post = Checks.after("street 8;repeat 2(balloon 0 1 9;);fill 0 29;");
            CHECKS.throwsState("gas of 21, and 22 is filled in", () -> post.fill(1, 22));
            CHECKS.same("gas of 21, and 21 is filled in", post.fill(1, 21), 22);
            CHECKS.throwsState("gas of 0, and 1 is filled in", () -> post.fill(1, 1));
        });
        CHANGES.test(refused, () -> {
            BalloonPost post = Checks.after("street 8;balloon 0 2 9;balloon 0 30 9;");
            CHECKS.throwsState("2 + 29", () -> post.fill(0, 29));
            CHECKS.same("2 + 28", post.fill(0, 28), 30);
            CHECKS.throwsState("30 + 1", () -> post.fill(1, 1));
        });
    }

    // ---- promises 17 to 19

    private static void addGas() {
        CHANGES.under("Promise 17");
        CHANGES.namesNoBoundary("Adds gas.");
        CHANGES.test("`gas`: 1 to 200", () -> CHECKS.takesRange("gas of", 1, 200, gas -> new BalloonPost().addGas(gas)));
        CHANGES.test("Returns the gas afterwards.", () -> {
            CHECKS.same("50 + 1", new BalloonPost().addGas(1), 51);
            CHECKS.same("50 + 200", new BalloonPost().addGas(200), 250);
            CHECKS.same("0 + 1", Checks.after("street 8;repeat 2(balloon 0 1 1;);fill 0 29;fill 1 21;").addGas(1), 1);
        });
        CHANGES.test("Throws `IllegalArgumentException` if `gas` is out of range",
                () -> CHECKS.refusesOutside("gas of", 1, 200, ARGUMENT, gas -> new BalloonPost().addGas(gas)));
        CHANGES.test("Throws `IllegalStateException` if it would be greater than 999", () -> {
            BalloonPost post = Checks.after("street 8;repeat 4(gas 200;);");
            CHECKS.throwsState("850 + 150", () -> post.addGas(150));
            CHECKS.throwsState("850 + 200", () -> post.addGas(200));
            CHECKS.same("850 + 149", post.addGas(149), 999);
            CHECKS.throwsState("999 + 1", () -> post.addGas(1));
            CHECKS.same("gas", post.gas(), 999);
        });
    }

    private static void claim() {
        CHANGES.under("Promise 18");
        CHANGES.test("Claims a parcel.", () -> {
            BalloonPost post = new BalloonPost();
            post.claim(7, 13);
            CHECKS.same("state", post.parcelState(3), BalloonPost.CLAIMED);
        });
        CHANGES.test("`number`: the number on its string", () -> {
            CHECKS.same("the smallest", Checks.after("street 8;parcel 1 0 1 0;").claim(0, 0), 0);
            CHECKS.same("the greatest", Checks.after("street 8;parcel 1 0 1 99;").claim(0, 99), 0);
            CHECKS.throwsNoSuch("the parcel's number in the row", () -> Checks.after("street 8;parcel 1 0 1 99;").claim(0, 0));
        });
        CHANGES.test("Returns what is paid.", () -> {
            String head = "street 30;gust west 1;balloon 1 30 9;parcel 1 1 0 0;tie 0 0;launch 0;";
            CHECKS.same("the smallest fare", Checks.after(head + "hours 1;moor 0;untie 0;").claim(0, 0), 1);
            CHECKS.same("not at the destination", Checks.after(head + "moor 0;untie 0;").claim(1, 0), 0);
            CHECKS.same("the greatest fare", Checks.after("street 30;gust west 3;leak 9;balloon 29 30 9;parcel 9 29 0 0;tie 0 0;launch 0;hours 10;moor 0;"
                    + "untie 0;").claim(0, 0), 261);
        });
        CHANGES.test(WRONG_PLACE, () -> CHECKS.needsIndex("claim", BalloonPost::streetLength, (post, place) -> post.claim(place, 1)));
        String none = "Throws `NoSuchElementException` if no parcel with this number lies there";
        for (int number : new int[] {12, 14, 3, 0, -1, 99, 100, Integer.MIN_VALUE, Integer.MAX_VALUE}) {
            CHANGES.test(none, () -> CHECKS.throwsNoSuch("no parcel there has the number " + number, () -> new BalloonPost().claim(7, number)));
        }
        for (int place : new int[] {0, 6, 8, 1, 11}) {
            CHANGES.test(none, () -> CHECKS.throwsNoSuch("it does not lie at " + place, () -> new BalloonPost().claim(place, 13)));
        }
        CHANGES.test(none, () -> CHECKS.throwsNoSuch("it is tied there", () -> new BalloonPost().claim(3, 12)));
        CHANGES.test(none, () -> {
            BalloonPost post = new BalloonPost();
            post.claim(7, 13);
            CHECKS.throwsNoSuch("it is claimed", () -> post.claim(7, 13));
            post.addParcel(1, 7, 1, 13);
            CHECKS.same("the next one with its number", post.claim(7, 13), 0);
        });
        CHANGES.test(none, () -> CHECKS.throwsNoSuch("no parcels at all", () -> Checks.after("street 8;").claim(0, 0)));
    }

    private static void passHours() {
        CHANGES.under("Promise 19");
        CHANGES.test("Lets hours pass.", () -> {
            BalloonPost atOnce = Checks.after("street 30;gust east 1;balloon 0 30 9;launch 0;hours 24;");
            BalloonPost singly = Checks.after("street 30;gust east 1;balloon 0 30 9;launch 0;repeat 20(hours 1;);repeat 4(hours 1;);");
            CHECKS.sameText("24 hours at once and singly", Checks.stateOf(atOnce), Checks.stateOf(singly));
        });
        CHANGES.test("`hours`: 1 to 24", () -> CHECKS.takesRange("hours", 1, 24, hours -> new BalloonPost().passHours(hours)));
        CHANGES.test("Returns the new hour.", () -> {
            CHECKS.same("1 + 1", new BalloonPost().passHours(1), 2);
            CHECKS.same("1 + 24", new BalloonPost().passHours(24), 25);
        });
        CHANGES.test("Throws `IllegalArgumentException` if `hours` is out of range",
                () -> CHECKS.refusesOutside("hours", 1, 24, ARGUMENT, hours -> new BalloonPost().passHours(hours)));
        String late = "Throws `IllegalStateException` if the hour would become greater than 999";
        for (int hours : new int[] {1, 2, 24}) {
            CHANGES.test(late, () -> CHECKS.throwsState("999 + " + hours, () -> Checks.after(LAST_HOUR).passHours(hours)));
        }
        CHANGES.test(late, () -> {
            BalloonPost post = Checks.after("street 8;repeat 20(hours 24;hours 24;);hours 16;");
            CHECKS.same("hour", post.hour(), 976);
            CHECKS.throwsState("976 + 24", () -> post.passHours(24));
            CHECKS.same("976 + 23", post.passHours(23), 999);
        });
    }
}
