import java.lang.reflect.InvocationTargetException;
import java.lang.reflect.Method;
import java.util.ArrayList;
import java.util.List;
import java.util.Random;

/** Long runs of calls, the same on the program and on the Model; the seeds are fixed, so every start tests the same runs. */
public final class RandomRunsTest {
    private static final Checks CHECKS = new Checks("RandomRunsTest");
    private static final int RUNS = 1000;
    private static final int CALLS = 500;

    /** Every change with the kinds of its parameters (as in valueOf). */
    private static final String[] CHANGES = {
        "setRoof ph", "setTree ph", "addGust g", "setLeak l", "addBalloon pus", "addParcel wppn", "tie cb", "untie c", "launch b",
        "moor b", "free b", "fill bf", "addGas a", "claim pn", "passHours i", "passHours t", "undo ", "saveSnapshot ",
        "restoreSnapshot ", "append xxxxx", "truncateInput L", "script ",
    };
    private static final String[] READERS = {
        "undoCount ", "scriptErrorKind ", "scriptErrorOffset ", "streetLength ", "hour ", "gas ", "balloonCount ", "parcelCount ",
        "roof p", "tree p", "gustAt H", "parcelsAt p", "placeOf b", "lift b", "stringLength b", "load b", "height b", "stateOf b",
        "parcelsOf b", "flyingBalloons ", "weight c", "destination c", "parcelState c", "balloonOf c", "parcelPlace c", "fare c",
        "parcelWith n", "whyNoTie cb", "whyNoLaunch b", "heaviestFor b", "bestBalloon c", "placeAfter bT", "stateAfter bT",
        "hoursToSink b", "hoursToDestination c", "takings ", "deliveredCount ", "meanLift ", "claimedShare ", "violations ",
        "writeStreet ", "reportByte r",
    };
    /** A script's commands, likewise; W is east or west. */
    private static final String[] COMMANDS = {
        "roof ph", "tree ph", "gust Wg", "leak l", "balloon pus", "parcel wppn", "tie cb", "untie c", "launch b", "moor b", "free b",
        "fill bf", "gas a", "claim pn", "hours i", "hours t",
    };
    private static final int[] WEIGHTS = {0, 1, 1, 2, 4, 8};
    private static final String[] NOISE = {"street", "repeat", "x", "Roof", "(", ")", ";", "1000", "0001", "99", "0", "east", "\t", "\u00e9", ""};

    private static Random random;
    private static Model model;
    private static BalloonPost post;
    private static int[] weights;
    private static int nearPlaces;

    public static void main(String[] args) {
        for (int run = 0; run < RUNS; run++) {
            random = new Random(run);
            model = new Model();
            post = new BalloonPost();
            chooseHabits();
            if (random.nextInt(3) > 0) {
                runScript(run);
            }
            for (int i = 0; i < CALLS; i++) {
                String call = random.nextInt(4) > 0 ? heavyChange() : READERS[random.nextInt(READERS.length)];
                randomCall(run, call.split(" ", 2));
                if (i % 100 == 99) {
                    wholeState(run);
                }
            }
        }
        CHECKS.finish();
    }

    /** Each run prefers other changes, so that the runs come into states that even choices seldom reach. */
    private static void chooseHabits() {
        weights = new int[CHANGES.length];
        for (int i = 0; i < weights.length; i++) {
            weights[i] = WEIGHTS[random.nextInt(WEIGHTS.length)];
        }
        weights[weights.length - 1] = random.nextInt(3) == 0 ? 1 : 0;
        nearPlaces = 1 + random.nextInt(12);
    }

    private static String heavyChange() {
        int sum = 0;
        for (int weight : weights) {
            sum += weight;
        }
        int rest = random.nextInt(sum + 1);
        for (int i = 0; i < weights.length; i++) {
            rest -= weights[i];
            if (rest < 0) {
                return CHANGES[i];
            }
        }
        return CHANGES[0];
    }

    private static void randomCall(int run, String[] call) {
        if (call[0].equals("script")) {
            runScript(run);
            return;
        }
        int[] values = new int[call[1].length()];
        for (int i = 0; i < values.length; i++) {
            values[i] = valueOf(call[1].charAt(i), model);
        }
        aim(call[0], values);
        both(run, call[0], values);
    }

    /** Most random ties, unties and claims would be refused or lead nowhere: prefer those that go well. */
    private static void aim(String name, int[] values) {
        if (model.parcelCount() == 0 || random.nextInt(4) == 0) {
            return;
        }
        int first = random.nextInt(model.parcelCount());
        for (int i = 0; i < model.parcelCount(); i++) {
            int parcel = (first + i) % model.parcelCount();
            boolean there = model.hoursToDestination(parcel) == 0;
            boolean lies = model.parcelState(parcel) == BalloonPost.LYING;
            if (name.equals("claim") && lies && (there || random.nextInt(9) == 0)) {
                values[0] = model.parcelPlace(parcel);
                values[1] = numberOf(parcel);
            }
            if (name.equals("untie") && !lies && there) {
                values[0] = parcel;
            }
            if (name.equals("tie") && !there && model.bestBalloon(parcel) >= 0) {
                values[0] = parcel;
                values[1] = fullestFor(parcel);
                return;
            }
        }
    }

    private static int numberOf(int parcel) {
        int number = 0;
        while (model.parcelWith(number) != parcel) {
            number++;
        }
        return number;
    }

    private static int fullestFor(int parcel) {
        int best = model.bestBalloon(parcel);
        for (int balloon = 0; balloon < model.balloonCount(); balloon++) {
            boolean fuller = Integer.bitCount(model.parcelsOf(balloon)) > Integer.bitCount(model.parcelsOf(best));
            if (model.whyNoTie(parcel, balloon) == BalloonPost.ALLOWED && fuller) {
                best = balloon;
            }
        }
        return best;
    }

    private static int valueOf(char kind, Model model) {
        switch (kind) {
            case 'p': return random.nextInt(3) > 0 ? random.nextInt(Math.min(nearPlaces, model.streetLength())) : around(0, model.streetLength() - 1);
            case 'b': return around(0, model.balloonCount() - 1);
            case 'c': return around(0, model.parcelCount() - 1);
            case 'h': return random.nextInt(3) > 0 ? random.nextInt(4) : around(0, 9);
            case 'g': return around(-3, 3);
            case 'l': case 's': return around(1, 9);
            case 'w': return random.nextInt(2) > 0 ? 1 + random.nextInt(3) : around(1, 9);
            case 'n': return random.nextInt(2) > 0 ? random.nextInt(20) : around(0, 99);
            case 'u': return random.nextInt(2) > 0 ? 15 + random.nextInt(16) : around(1, 30);
            case 'f': return random.nextInt(2) > 0 ? 1 + random.nextInt(4) : around(1, 29);
            case 'a': return around(1, 200);
            case 't': return around(1, 24);
            case 'i': return around(1, 3);
            case 'T': return around(0, 48);
            case 'H': return around(0, 999);
            case 'r': return around(0, model.streetLength() - 1);
            case 'L': return around(0, 600);
            default: return random.nextInt();
        }
    }

    private static int around(int low, int high) {
        int way = random.nextInt(60);
        if (way == 0) {
            return low - 1;
        }
        if (way == 1) {
            return high + 1;
        }
        if (way == 2) {
            return new int[] {Integer.MIN_VALUE, Integer.MAX_VALUE, -1, 1 << 16}[random.nextInt(4)];
        }
        return high < low ? low : low + random.nextInt(high - low + 1);
    }

    // ---- scripts

    private static void runScript(int run) {
        String text = goodScript();
        if (random.nextInt(3) == 0) {
            text = spoiled(text);
        }
        feedScript(run, text);
        both(run, "runScript");
        both(run, "scriptErrorKind");
        both(run, "scriptErrorOffset");
    }

    /** Tries commands on a model of its own, and keeps those that go well. */
    private static String goodScript() {
        String text = "street " + (8 + random.nextInt(23)) + ";";
        int size = 40 + random.nextInt(560);
        Model trial = new Model();
        feed(trial, text);
        for (int i = 0; i < 60 && text.length() < size; i++) {
            String longer = text + (random.nextInt(8) == 0 ? repeat(trial, 0) : command(trial));
            if (longer.length() <= 600 && feed(trial, longer)) {
                text = longer;
            }
            feed(trial, text);
        }
        return text;
    }

    private static boolean feed(Model trial, String text) {
        trial.truncateInput(0);
        String padded = padded(text);
        for (int from = 0; from < padded.length(); from += 20) {
            int[] words = words(padded, from);
            trial.append(words[0], words[1], words[2], words[3], words[4]);
        }
        trial.truncateInput(text.length());
        return trial.runScript() >= 0;
    }

    private static String repeat(Model trial, int depth) {
        StringBuilder text = new StringBuilder("repeat " + (1 + random.nextInt(random.nextInt(4) == 0 ? 20 : 4)) + "(");
        for (int i = random.nextInt(4); i > 0; i--) {
            text.append(depth == 0 && random.nextInt(4) == 0 ? repeat(trial, 1) : command(trial));
        }
        return text.append(");").toString();
    }

    private static String command(Model trial) {
        String[] parts = COMMANDS[random.nextInt(COMMANDS.length)].split(" ");
        StringBuilder text = new StringBuilder(parts[0]);
        for (int i = 0; i < parts[1].length(); i++) {
            char kind = parts[1].charAt(i);
            text.append(random.nextInt(9) == 0 ? "\n" : " ");
            if (kind == 'W') {
                text.append(random.nextBoolean() ? "east" : "west");
            } else {
                text.append(Math.floorMod(valueOf(kind, trial), 1000));
            }
        }
        return text.append(random.nextInt(9) == 0 ? " ;" : ";").toString();
    }

    /** Puts noise or a further command into a good script, takes something out of it, or cuts it off. */
    private static String spoiled(String text) {
        int at = random.nextInt(text.length() + 1);
        int behind = text.indexOf(';', at) + 1;
        String longer;
        switch (random.nextInt(5)) {
            case 0: longer = text.substring(0, at) + NOISE[random.nextInt(NOISE.length)] + text.substring(at); break;
            case 1: longer = text.substring(0, at); break;
            case 2: longer = text.substring(0, at) + text.substring(Math.min(text.length(), at + 1 + random.nextInt(4))); break;
            case 3: longer = text.substring(0, behind) + "repeat 20(repeat 20(" + command(model) + "););" + text.substring(behind); break;
            default: longer = text.substring(0, behind) + command(model) + text.substring(behind); break;
        }
        return longer.length() > 600 ? longer.substring(0, 600) : longer;
    }

    private static String padded(String text) {
        return text + "\0".repeat((20 - text.length() % 20) % 20);
    }

    private static int[] words(String padded, int from) {
        int[] words = new int[5];
        for (int i = 0; i < 20; i++) {
            words[i / 4] = words[i / 4] << 8 | padded.charAt(from + i) & 255;
        }
        return words;
    }

    private static void feedScript(int run, String text) {
        both(run, "truncateInput", 0);
        String padded = padded(text);
        for (int from = 0; from < padded.length(); from += 20) {
            both(run, "append", words(padded, from));
        }
        both(run, "truncateInput", text.length());
    }

    // ---- comparing

    private static void both(int run, String name, int... values) {
        String want = answer(model, name, values);
        CHECKS.sameText("run " + run + " " + name + java.util.Arrays.toString(values), answer(post, name, values), want);
    }

    private static String answer(Object object, String name, int[] values) {
        Class<?>[] types = new Class<?>[values.length];
        Object[] boxed = new Object[values.length];
        for (int i = 0; i < values.length; i++) {
            types[i] = int.class;
            boxed[i] = values[i];
        }
        try {
            Method method = object.getClass().getMethod(name, types);
            return String.valueOf(method.invoke(object, boxed));
        } catch (InvocationTargetException e) {
            return e.getCause().getClass().getName();
        } catch (ReflectiveOperationException e) {
            throw new AssertionError(e);
        }
    }

    private static void wholeState(int run) {
        for (String reader : READERS) {
            String[] call = reader.split(" ", 2);
            if (call[1].isEmpty()) {
                both(run, call[0]);
            } else if (call[1].length() == 1) {
                for (int i = -1; i <= sizeOf(call[1].charAt(0)); i++) {
                    both(run, call[0], i);
                }
            }
        }
        for (int parcel = 0; parcel < model.parcelCount(); parcel++) {
            for (int balloon = 0; balloon < model.balloonCount(); balloon++) {
                both(run, "whyNoTie", parcel, balloon);
            }
        }
    }

    private static int sizeOf(char kind) {
        switch (kind) {
            case 'b': return model.balloonCount();
            case 'c': return model.parcelCount();
            case 'n': case 'H': return 100;
            default: return model.streetLength();
        }
    }
}
