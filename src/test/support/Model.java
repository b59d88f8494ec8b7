import java.util.ArrayDeque;
import java.util.ArrayList;
import java.util.Comparator;
import java.util.Deque;
import java.util.List;
import java.util.NoSuchElementException;
import java.util.function.Predicate;
import java.util.function.Supplier;
import java.util.regex.Matcher;
import java.util.regex.Pattern;

/** A second reading of the document, in another style and without thrift: the program is compared with it. */
public final class Model {
    private static final class Balloon {
        int place, lift, string, state;
        final List<Parcel> tied = new ArrayList<>();
        int load() { return tied.stream().mapToInt(p -> p.weight).sum(); }
        int height() { return Math.min(string, lift - load()); }
        Balloon lightCopy() { Balloon b = new Balloon(); b.place = place; b.lift = lift; b.string = string; b.state = state; return b; }
    }

    private static final class Parcel {
        int id, weight, origin, destination, number, place;
        boolean claimed;
        Balloon on;
        boolean lying() { return on == null && !claimed; }
        int where() { return claimed ? -1 : on != null ? on.place : place; }
        int fare() { return weight * Math.abs(origin - destination); }
    }

    private static final class State {
        int places, hour, gas = 50, leak = 3, takings, delivered;
        int[] roofs, trees;
        final List<Integer> gusts = new ArrayList<>();
        final List<Balloon> balloons = new ArrayList<>();
        final List<Parcel> parcels = new ArrayList<>();

        State(int places) { this.places = places; roofs = new int[places]; trees = new int[places]; }

        State copy() {
            State s = new State(places);
            s.hour = hour; s.gas = gas; s.leak = leak; s.takings = takings; s.delivered = delivered;
            s.roofs = roofs.clone(); s.trees = trees.clone();
            s.gusts.addAll(gusts);
            for (Balloon b : balloons) s.balloons.add(b.lightCopy());
            for (Parcel p : parcels) {
                Parcel q = new Parcel();
                q.id = p.id; q.weight = p.weight; q.origin = p.origin; q.destination = p.destination;
                q.number = p.number; q.place = p.place; q.claimed = p.claimed;
                if (p.on != null) { q.on = s.balloons.get(balloons.indexOf(p.on)); q.on.tied.add(q); }
                s.parcels.add(q);
            }
            return s;
        }

        int gust() { return gusts.isEmpty() ? 0 : gusts.get(hour % gusts.size()); }

        void oneHour() {
            int gust = gust();
            for (Balloon b : balloons) {
                int left = Math.abs(gust);
                while (b.state == 1 && left-- > 0) {
                    int to = b.place + Integer.signum(gust);
                    if (to < 0 || to >= places || roofs[to] > b.height()) break;
                    b.place = to;
                    if (trees[to] >= b.height()) b.state = 2;
                }
            }
            if ((hour + 1) % leak == 0) {
                for (Balloon b : balloons) {
                    if (b.state != 1) continue;
                    boolean sinks = b.lift == 1;
                    if (b.lift > 1) { b.lift--; sinks = b.load() >= b.lift; }
                    if (sinks) { b.state = 0; relieve(b); }
                }
            }
            hour++;
        }

        int relieve(Balloon b) {
            int fallen = 0;
            while (b.load() >= b.lift) {
                Parcel p = b.tied.stream().min(Comparator.<Parcel>comparingInt(q -> -q.weight).thenComparingInt(q -> q.id)).get();
                drop(p);
                fallen++;
            }
            return fallen;
        }

        void drop(Parcel p) { p.place = p.on.place; p.on.tied.remove(p); p.on = null; }
    }

    private static final class ScriptError extends RuntimeException {
        private static final long serialVersionUID = 1L;
        final int kind, offset;
        ScriptError(int kind, int offset) { this.kind = kind; this.offset = offset; }
    }

    private static final class Token {
        final String text;
        final int offset;
        Token(String text, int offset) { this.text = text; this.offset = offset; }
        boolean isNumber() { return text.matches("[0-9]{1,3}"); }
        boolean isWord() { return text.matches("[a-z]+"); }
    }

    private State now;
    private State snapshot;
    private final Deque<State> past = new ArrayDeque<>();
    private StringBuilder input = new StringBuilder();
    private int errorKind = 0, errorOffset = -1;
    private String report = "";

    public Model() {
        input.append("street 12; roof 5 3; tree 8 2; roof 11 9; gust east 2; gust east 1; gust west 1; balloon 0 10 5; "
            + "balloon 3 6 4; balloon 7 4 2; parcel 4 0 8 10; parcel 3 0 5 11; parcel 5 3 9 12; parcel 2 7 1 13; "
            + "tie 0 0; tie 1 0; tie 2 1; launch 0; hours 1;");
        now = new State(8);
        runScript();
        past.clear();
    }

    // ---- the script: all tokens first, then a recursive walk that may throw

    private List<Token> tokens;
    private int at;
    private int executed;

    private void cut(String text) {
        tokens = new ArrayList<>();
        Matcher m = Pattern.compile("[ \n]+|[a-z]+|[0-9]+|[\\s\\S]").matcher(text);
        while (m.find()) if (!m.group().matches("[ \n]+")) tokens.add(new Token(m.group(), m.start()));
        tokens.add(new Token("", text.length()));
    }

    private Token take() { Token t = tokens.get(at); if (at < tokens.size() - 1) at++; return t; }

    private void expect(String text) { Token t = take(); if (!t.text.equals(text)) throw new ScriptError(1, t.offset); }

    private int number(Predicate<Integer> good) {
        Token t = take();
        if (!t.isNumber()) throw new ScriptError(1, t.offset);
        int value = Integer.parseInt(t.text);
        if (!good.test(value)) throw new ScriptError(2, t.offset);
        return value;
    }

    private int number(int low, int high) { return number(n -> n >= low && n <= high); }
    private int place() { return number(0, now.places - 1); }
    private int parcel() { return number(0, now.parcels.size() - 1); }
    private int balloon() { return number(0, now.balloons.size() - 1); }

    private void script() {
        expect("street");
        int length = number(8, 30);
        expect(";");
        now = new State(length);
        executed = 0;
        while (!tokens.get(at).text.isEmpty()) { statement(0); }
    }

    private void statement(int depth) {
        Token first = take();
        if (first.text.equals("repeat")) {
            if (depth == 2) throw new ScriptError(4, first.offset);
            int n = number(1, 20);
            expect("(");
            int body = at;
            for (int i = 0; i < n; i++) {
                at = body;
                while (!tokens.get(at).text.equals(")")) statement(depth + 1);
            }
            expect(")");
            expect(";");
            return;
        }
        Supplier<Integer> call = command(first);
        Token end = take();
        if (!end.text.equals(";")) throw new ScriptError(1, end.offset);
        try {
            call.get();
        } catch (IllegalStateException e) {
            throw new ScriptError(3, end.offset);
        }
        past.clear();
        executed++;
    }

    private Supplier<Integer> command(Token first) {
        List<String> words = List.of("roof", "tree", "gust", "leak", "balloon", "parcel", "tie", "untie", "launch", "moor", "free",
            "fill", "gas", "claim", "hours");
        if (!words.contains(first.text)) throw new ScriptError(1, first.offset);
        if (executed == 200) throw new ScriptError(5, first.offset);
        int a, b, c, d;
        switch (first.text) {
            case "roof": a = place(); b = number(0, 9); return () -> setRoof(a, b);
            case "tree": a = place(); b = number(0, 9); return () -> setTree(a, b);
            case "gust": {
                Token way = take();
                if (!way.text.equals("east") && !way.text.equals("west")) throw new ScriptError(1, way.offset);
                a = number(0, 3);
                return () -> addGust(way.text.equals("west") ? -a : a);
            }
            case "leak": a = number(1, 9); return () -> setLeak(a);
            case "balloon": a = place(); b = number(1, 30); c = number(1, 9); return () -> addBalloon(a, b, c);
            case "parcel":
                a = number(1, 9); b = place(); c = number(n -> n < now.places && n != b); d = number(0, 99);
                return () -> addParcel(a, b, c, d);
            case "tie": a = parcel(); b = balloon(); return () -> tie(a, b);
            case "untie": a = parcel(); return () -> untie(a);
            case "launch": a = balloon(); return () -> launch(a);
            case "moor": a = balloon(); return () -> moor(a);
            case "free": a = balloon(); return () -> free(a);
            case "fill": a = balloon(); b = number(1, 29); return () -> fill(a, b);
            case "gas": a = number(1, 200); return () -> addGas(a);
            case "claim":
                a = place();
                b = number(n -> now.parcels.stream().anyMatch(p -> p.lying() && p.place == a && p.number == n));
                return () -> claim(a, b);
            default: a = number(1, 24); return () -> passHours(a);
        }
    }

    // ---- the face

    public int append(int a, int b, int c, int d, int e) {
        if (input.length() + 20 > 600) return -1;
        for (int word : new int[] {a, b, c, d, e})
            for (int shift = 24; shift >= 0; shift -= 8) input.append((char) (word >> shift & 255));
        return input.length();
    }

    public int truncateInput(int length) {
        if (length < 0 || length > input.length()) throw new IllegalArgumentException();
        input.setLength(length);
        return length;
    }

    public int runScript() {
        State before = now;
        List<State> remembered = new ArrayList<>(past);
        cut(input.toString());
        at = 0;
        input.setLength(0);
        errorKind = 0;
        errorOffset = -1;
        try {
            script();
        } catch (ScriptError e) {
            errorKind = e.kind;
            errorOffset = e.offset;
            now = before;
            past.clear();
            past.addAll(remembered);
            return -1;
        }
        past.clear();
        past.addAll(remembered);
        State after = now;
        now = before;
        remember();
        now = after;
        return now.parcels.size();
    }

    private void remember() { past.push(now.copy()); while (past.size() > 8) past.removeLast(); }

    private void index(int i, int size) { if (i < 0 || i >= size) throw new IndexOutOfBoundsException(); }
    private void argument(boolean good) { if (!good) throw new IllegalArgumentException(); }
    private void state(boolean good) { if (!good) throw new IllegalStateException(); }
    private Balloon b(int i) { index(i, now.balloons.size()); return now.balloons.get(i); }
    private Parcel p(int i) { index(i, now.parcels.size()); return now.parcels.get(i); }

    public int setRoof(int place, int height) {
        index(place, now.places); argument(height >= 0 && height <= 9); remember();
        int old = now.roofs[place]; now.roofs[place] = height; return old;
    }

    public int setTree(int place, int height) {
        index(place, now.places); argument(height >= 0 && height <= 9); remember();
        int old = now.trees[place]; now.trees[place] = height; return old;
    }

    public int addGust(int gust) {
        argument(gust >= -3 && gust <= 3); state(now.gusts.size() < 12); remember();
        now.gusts.add(gust); return now.gusts.size();
    }

    public int setLeak(int hours) {
        argument(hours >= 1 && hours <= 9); remember();
        int old = now.leak; now.leak = hours; return old;
    }

    public int addBalloon(int place, int lift, int length) {
        index(place, now.places); argument(lift >= 1 && lift <= 30 && length >= 1 && length <= 9); state(now.balloons.size() < 8);
        remember();
        Balloon b = new Balloon(); b.place = place; b.lift = lift; b.string = length; now.balloons.add(b);
        return now.balloons.size() - 1;
    }

    public int addParcel(int weight, int origin, int destination, int number) {
        index(origin, now.places); index(destination, now.places);
        argument(origin != destination && weight >= 1 && weight <= 9 && number >= 0 && number <= 99);
        state(now.parcels.size() < 16 && parcelWith(number) == -1);
        remember();
        Parcel p = new Parcel(); p.id = now.parcels.size(); p.weight = weight; p.origin = origin; p.place = origin;
        p.destination = destination; p.number = number; now.parcels.add(p);
        return p.id;
    }

    public int tie(int parcel, int balloon) {
        state(whyNoTie(parcel, balloon) == 0); remember();
        Parcel p = p(parcel); p.on = b(balloon); p.on.tied.add(p); return p.on.load();
    }

    public int untie(int parcel) {
        Parcel p = p(parcel); state(p.on != null && p.on.state == 0); remember();
        int from = now.balloons.indexOf(p.on); now.drop(p); return from;
    }

    public int launch(int balloon) { state(whyNoLaunch(balloon) == 0); remember(); b(balloon).state = 1; return b(balloon).height(); }
    public int moor(int balloon) { state(b(balloon).state == 1); remember(); b(balloon).state = 0; return b(balloon).place; }

    public int free(int balloon) {
        Balloon b = b(balloon); state(b.state == 2); remember();
        b.state = 0; b.lift = Math.max(1, b.lift - 2); return now.relieve(b);
    }

    public int fill(int balloon, int gas) {
        Balloon b = b(balloon); argument(gas >= 1 && gas <= 29); state(b.state == 0 && now.gas >= gas && b.lift + gas <= 30); remember();
        now.gas -= gas; b.lift += gas; return b.lift;
    }

    public int addGas(int gas) { argument(gas >= 1 && gas <= 200); state(now.gas + gas <= 999); remember(); now.gas += gas; return now.gas; }

    public int claim(int place, int number) {
        index(place, now.places);
        for (Parcel p : now.parcels) {
            if (!p.lying() || p.place != place || p.number != number) continue;
            remember();
            p.claimed = true;
            if (place != p.destination) return 0;
            now.delivered++; now.takings += p.fare(); return p.fare();
        }
        throw new NoSuchElementException();
    }

    public int passHours(int hours) {
        argument(hours >= 1 && hours <= 24); state(now.hour + hours <= 999); remember();
        for (int i = 0; i < hours; i++) now.oneHour();
        return now.hour;
    }

    public int undo() { if (past.isEmpty()) return -1; now = past.pop(); return past.size(); }
    public int undoCount() { return past.size(); }
    public int saveSnapshot() { snapshot = now.copy(); return now.hour; }

    public int restoreSnapshot() {
        if (snapshot == null) throw new NoSuchElementException();
        now = snapshot.copy(); past.clear(); return now.hour;
    }

    public int scriptErrorKind() { return errorKind; }
    public int scriptErrorOffset() { return errorOffset; }
    public int streetLength() { return now.places; }
    public int hour() { return now.hour; }
    public int gas() { return now.gas; }
    public int balloonCount() { return now.balloons.size(); }
    public int parcelCount() { return now.parcels.size(); }
    public int roof(int place) { index(place, now.places); return now.roofs[place]; }
    public int tree(int place) { index(place, now.places); return now.trees[place]; }

    public int gustAt(int hour) {
        argument(hour >= 0 && hour <= 999);
        State s = now.copy(); s.hour = hour; return s.gust();
    }

    private int set(List<Parcel> parcels) { return parcels.stream().mapToInt(p -> 1 << p.id).sum(); }

    public int parcelsAt(int place) {
        index(place, now.places);
        return set(now.parcels.stream().filter(p -> p.lying() && p.place == place).toList());
    }

    public int placeOf(int balloon) { return b(balloon).place; }
    public int lift(int balloon) { return b(balloon).lift; }
    public int stringLength(int balloon) { return b(balloon).string; }
    public int load(int balloon) { return b(balloon).load(); }
    public int height(int balloon) { return b(balloon).height(); }
    public int stateOf(int balloon) { return b(balloon).state; }
    public int parcelsOf(int balloon) { return set(b(balloon).tied); }

    public int flyingBalloons() {
        int set = 0;
        for (int i = 0; i < now.balloons.size(); i++) if (now.balloons.get(i).state == 1) set += 1 << i;
        return set;
    }

    public int weight(int parcel) { return p(parcel).weight; }
    public int destination(int parcel) { return p(parcel).destination; }
    public int parcelState(int parcel) { Parcel p = p(parcel); return p.claimed ? 2 : p.on != null ? 1 : 0; }
    public int balloonOf(int parcel) { return now.balloons.indexOf(p(parcel).on); }
    public int parcelPlace(int parcel) { return p(parcel).where(); }
    public int fare(int parcel) { return p(parcel).fare(); }

    public int parcelWith(int number) {
        return now.parcels.stream().filter(p -> !p.claimed && p.number == number).mapToInt(p -> p.id).findFirst().orElse(-1);
    }

    public int whyNoTie(int parcel, int balloon) {
        Parcel p = p(parcel);
        Balloon b = b(balloon);
        return !p.lying() ? 1 : b.state != 0 ? 2 : p.place != b.place ? 3 : b.tied.size() == 4 ? 4 : b.load() + p.weight >= b.lift ? 5 : 0;
    }

    public int whyNoLaunch(int balloon) {
        Balloon b = b(balloon);
        return b.state != 0 ? 2 : now.trees[b.place] >= b.height() ? 6 : 0;
    }

    public int heaviestFor(int balloon) {
        Balloon b = b(balloon);
        int best = 0;
        for (int w = 1; w <= 9 && b.tied.size() < 4; w++) if (b.load() + w < b.lift) best = w;
        return best;
    }

    public int bestBalloon(int parcel) {
        p(parcel);
        List<Integer> fit = new ArrayList<>();
        for (int i = 0; i < now.balloons.size(); i++) if (whyNoTie(parcel, i) == 0) fit.add(i);
        return fit.stream().min(Comparator.comparingInt(i -> b(i).lift - b(i).load())).orElse(-1);
    }

    private State later(int hours) { State s = now.copy(); for (int i = 0; i < hours; i++) s.oneHour(); return s; }

    public int placeAfter(int balloon, int hours) { b(balloon); argument(hours >= 0 && hours <= 48); return later(hours).balloons.get(balloon).place; }
    public int stateAfter(int balloon, int hours) { b(balloon); argument(hours >= 0 && hours <= 48); return later(hours).balloons.get(balloon).state; }

    public int hoursToSink(int balloon) {
        if (b(balloon).state != 1) return -1;
        State s = now.copy();
        for (int h = 1; h <= 200; h++) { s.oneHour(); if (s.balloons.get(balloon).state == 0) return h; }
        return -1;
    }

    public int hoursToDestination(int parcel) {
        if (p(parcel).claimed) return -1;
        State s = now.copy();
        for (int h = 0; h <= 48; h++) {
            if (s.parcels.get(parcel).where() == p(parcel).destination) return h;
            s.oneHour();
        }
        return -1;
    }

    public int takings() { return now.takings; }
    public int deliveredCount() { return now.delivered; }

    public double meanLift() {
        return now.balloons.isEmpty() ? 0.0 : (double) now.balloons.stream().mapToInt(b -> b.lift).sum() / (double) now.balloons.size();
    }

    public float claimedShare() {
        return now.parcels.isEmpty() ? 0.0f : (float) now.parcels.stream().filter(p -> p.claimed).count() / (float) now.parcels.size();
    }

    public int violations() { return 0; }

    public int writeStreet() {
        StringBuilder text = new StringBuilder();
        for (int place = 0; place < now.places; place++) {
            String sign = parcelsAt(place) != 0 ? "p" : now.trees[place] > 0 ? "t" : now.roofs[place] > 0 ? "r" : ".";
            for (int i = now.balloons.size() - 1; i >= 0; i--) if (b(i).place == place) sign = String.valueOf(i);
            text.append(sign);
        }
        report = text.toString();
        return report.length();
    }

    public int reportByte(int index) { return index >= 0 && index < report.length() ? report.charAt(index) : -1; }
}
