import java.util.ArrayDeque;
import java.util.ArrayList;
import java.util.Deque;
import java.util.List;
import java.util.regex.Matcher;
import java.util.regex.Pattern;

/**
 * The document told again, as its words say it and without a thought for speed: lists that are
 * copied, sums from their definitions, letters as texts of 0 and 1, and works by a regular expression.
 */
public final class Oracle {
    private static final Pattern WORKS;

    static {
        String item = "[+-](0|[1-9][0-9]?)|d([1-9]|1[0-2])|v[0-3]|k[0-4]|s|x"
                + "|w[1-4]:-?(0|[1-9]|[1-5][0-9]|6[0-4])"
                + "|t(0|[1-9]|[1-3][0-9]|4[0-7]):-?(0|[1-9][0-9]?|1[0-8][0-9]|19[0-8])";
        WORKS = Pattern.compile("(" + item + ")(;(" + item + "))*");
    }

    /** Everything that undo brings back; a state is never changed, but replaced. */
    private record State(List<Integer> sound, int delay, int speed, List<Integer> first,
            List<Integer> allowed, Letter letter, int sent) {
    }

    private record Letter(int delay, int speed, List<Integer> first, List<Integer> kinds,
            List<Integer> parameters, List<Integer> lefts, List<Integer> sound) {
    }

    private State state = new State(List.of(), 4, 1, List.of(16, 0, 0, 0), List.of(0, 1, 2, 3, 4), null, 0);
    private final Deque<State> saved = new ArrayDeque<>();
    private final State[] slots = new State[2];
    private String text = "";

    private static void index(boolean good) {
        if (!good) {
            throw new IndexOutOfBoundsException();
        }
    }

    private static void argument(int value, int least, int most) {
        if (value < least || value > most) {
            throw new IllegalArgumentException();
        }
    }

    private static void possible(boolean good) {
        if (!good) {
            throw new IllegalStateException();
        }
    }

    private void become(State next) {
        saved.addLast(state);
        if (saved.size() > 6) {
            saved.removeFirst();
        }
        state = next;
    }

    private State withSound(List<Integer> sound) {
        return new State(sound, state.delay, state.speed, state.first, state.allowed, state.letter, state.sent);
    }

    private State withLetter(Letter letter, int sent) {
        return new State(state.sound, state.delay, state.speed, state.first, state.allowed, letter, sent);
    }

    private static List<Integer> changed(List<Integer> list, int place, int value) {
        List<Integer> copy = new ArrayList<>(list);
        copy.set(place, value);
        return copy;
    }

    private static List<Integer> longer(List<Integer> list, int value) {
        List<Integer> copy = new ArrayList<>(list);
        copy.add(value);
        return copy;
    }

    private static int at(List<Integer> sound, int number) {
        return number < 0 ? 0 : sound.get(number);
    }

    private static int limited(int value) {
        return value > 99 ? 99 : value < -99 ? -99 : value;
    }

    // ---- the definitions

    private static int weight(List<Integer> sound, int k, int t, int speed, List<Integer> first) {
        return weights(sound, t, speed, first).get(k - 1);
    }

    private static List<Integer> weights(List<Integer> sound, int t, int speed, List<Integer> first) {
        List<Integer> weights = new ArrayList<>(first);
        for (int behind = 0; behind < t; behind++) {
            int left = sound.get(behind) - weighed(sound, behind, weights);
            for (int k = 1; k <= 4; k++) {
                int product = left * at(sound, behind - k);
                weights.set(k - 1, weights.get(k - 1) + Integer.signum(product) * speed);
            }
        }
        return weights;
    }

    private static int weighed(List<Integer> sound, int t, List<Integer> weights) {
        double sum = 0;
        for (int k = 1; k <= 4; k++) {
            sum += weights.get(k - 1) * at(sound, t - k);
        }
        return limited((int) Math.floor((sum + 8) / 16));
    }

    private static int foretell(List<Integer> sound, int kind, int t, int delay, int speed, List<Integer> first) {
        return switch (kind) {
            case 0 -> 0;
            case 1 -> at(sound, t - 1);
            case 2 -> limited(2 * at(sound, t - 1) - at(sound, t - 2));
            case 3 -> at(sound, t - delay);
            default -> weighed(sound, t, weights(sound, t, speed, first));
        };
    }

    private int left(int kind, int t) {
        return state.sound.get(t) - foretell(state.sound, kind, t, state.delay, state.speed, state.first);
    }

    private int sum(int kind, int delay, int speed, List<Integer> first) {
        int sum = 0;
        for (int t = 0; t < state.sound.size(); t++) {
            sum += Math.abs(state.sound.get(t) - foretell(state.sound, kind, t, delay, speed, first));
        }
        return sum;
    }

    private static int folded(int r) {
        return r >= 0 ? 2 * r : -2 * r - 1;
    }

    private static int blocks(int samples) {
        return (int) Math.ceil(samples / 8.0);
    }

    private int bitsOf(int block, int kind, int p) {
        int bits = 6;
        for (int t = 8 * block; t < state.sound.size() && t < 8 * block + 8; t++) {
            bits += folded(left(kind, t)) / (int) Math.pow(2, p) + 1 + p;
        }
        return bits;
    }

    private int parameterOf(int block, int kind) {
        int best = 7;
        for (int p = 6; p >= 0; p--) {
            best = bitsOf(block, kind, p) <= bitsOf(block, kind, best) ? p : best;
        }
        return best;
    }

    private int bestBits(int block, int kind) {
        return bitsOf(block, kind, parameterOf(block, kind));
    }

    private int kindOf(int block) {
        int least = state.allowed.stream().mapToInt(kind -> bestBits(block, kind)).min().getAsInt();
        return state.allowed.stream().filter(kind -> bestBits(block, kind) == least).min(Integer::compare).get();
    }

    private static String binary(int value, int places) {
        String digits = "";
        for (int place = 0; place < places; place++) {
            digits = value % 2 + digits;
            value /= 2;
        }
        return digits;
    }

    private static String bitsOf(Letter letter) {
        StringBuilder bits = new StringBuilder();
        if (letter == null) {
            return "";
        }
        for (int t = 0; t < letter.lefts.size(); t++) {
            int p = letter.parameters.get(t / 8);
            int u = folded(letter.lefts.get(t));
            if (t % 8 == 0) {
                bits.append(binary(letter.kinds.get(t / 8), 3)).append(binary(p, 3));
            }
            bits.append("1".repeat(u >> p)).append("0").append(binary(u % (1 << p), p));
        }
        return bits.toString();
    }

    private static List<Integer> hear(Letter letter, List<Integer> lefts) {
        List<Integer> heard = new ArrayList<>();
        for (int t = 0; t < lefts.size(); t++) {
            int kind = letter.kinds.get(t / 8);
            heard.add(limited(foretell(heard, kind, t, letter.delay, letter.speed, letter.first) + lefts.get(t)));
        }
        return heard;
    }

    private static List<Integer> hearBits(Letter letter) {
        String bits = bitsOf(letter);
        List<Integer> heard = new ArrayList<>();
        int at = 0;
        int kind = 0;
        int p = 0;
        for (int t = 0; t < letter.lefts.size(); t++) {
            if (t % 8 == 0) {
                kind = Integer.parseInt(bits.substring(at, at + 3), 2);
                p = Integer.parseInt(bits.substring(at + 3, at + 6), 2);
                at += 6;
            }
            int nothing = bits.indexOf('0', at);
            int u = (nothing - at << p) + Integer.parseInt("0" + bits.substring(nothing + 1, nothing + 1 + p), 2);
            at = nothing + 1 + p;
            int r = u % 2 == 0 ? u / 2 : -(u + 1) / 2;
            heard.add(limited(foretell(heard, kind, t, letter.delay, letter.speed, letter.first) + r));
        }
        return heard;
    }

    private int unlikes(List<Integer> lefts) {
        List<Integer> heard = hear(state.letter, lefts);
        int unlikes = 0;
        for (int t = 0; t < heard.size(); t++) {
            unlikes += heard.get(t).equals(state.letter.sound.get(t)) ? 0 : 1;
        }
        return unlikes;
    }

    private State afterSend() {
        List<Integer> kinds = new ArrayList<>();
        List<Integer> parameters = new ArrayList<>();
        List<Integer> lefts = new ArrayList<>();
        for (int block = 0; block < blocks(); block++) {
            kinds.add(kindOf(block));
            parameters.add(parameterOf(block, kindOf(block)));
        }
        for (int t = 0; t < state.sound.size(); t++) {
            lefts.add(left(kinds.get(t / 8), t));
        }
        Letter letter = new Letter(state.delay, state.speed, state.first, kinds, parameters, lefts, state.sound);
        return withLetter(letter, state.sent + 1);
    }

    private static Letter tampered(Letter l, int number, int left) {
        return new Letter(l.delay, l.speed, l.first, l.kinds, l.parameters, changed(l.lefts, number, left), l.sound);
    }

    // ---- the face

    public int add(int sample) {
        argument(sample, -99, 99);
        possible(state.sound.size() < 48);
        become(withSound(longer(state.sound, sample)));
        return state.sound.size() - 1;
    }

    public int echo(int many, int back, int tenth) {
        argument(many, 1, 16);
        argument(back, 1, 12);
        argument(tenth, 1, 9);
        possible(state.sound.size() + many <= 48);
        List<Integer> sound = new ArrayList<>(state.sound);
        for (int i = 0; i < many; i++) {
            sound.add((int) Math.floor(at(sound, sound.size() - back) * tenth / 10.0));
        }
        become(withSound(sound));
        return sound.size();
    }

    public int change(int number, int sample) {
        index(number >= 0 && number < state.sound.size());
        argument(sample, -99, 99);
        int before = state.sound.get(number);
        become(withSound(changed(state.sound, number, sample)));
        return before;
    }

    public int drop() {
        possible(!state.sound.isEmpty());
        int last = state.sound.get(state.sound.size() - 1);
        become(withSound(List.copyOf(state.sound.subList(0, state.sound.size() - 1))));
        return last;
    }

    public int empty() {
        int before = state.sound.size();
        become(withSound(List.of()));
        return before;
    }

    public int setDelay(int delay) {
        argument(delay, 1, 12);
        int before = state.delay;
        become(new State(state.sound, delay, state.speed, state.first, state.allowed, state.letter, state.sent));
        return before;
    }

    public int setSpeed(int speed) {
        argument(speed, 0, 3);
        int before = state.speed;
        become(new State(state.sound, state.delay, speed, state.first, state.allowed, state.letter, state.sent));
        return before;
    }

    public int setWeight(int weight, int value) {
        argument(weight, 1, 4);
        argument(value, -64, 64);
        int before = state.first.get(weight - 1);
        List<Integer> first = changed(state.first, weight - 1, value);
        become(new State(state.sound, state.delay, state.speed, first, state.allowed, state.letter, state.sent));
        return before;
    }

    public boolean turnKind(int kind) {
        argument(kind, 0, 4);
        possible(!state.allowed.equals(List.of(kind)));
        List<Integer> allowed = new ArrayList<>(state.allowed);
        if (!allowed.remove((Integer) kind)) {
            allowed.add(kind);
        }
        become(new State(state.sound, state.delay, state.speed, state.first, allowed, state.letter, state.sent));
        return allowed.contains(kind);
    }

    public int send() {
        possible(!state.sound.isEmpty());
        become(afterSend());
        return bitsOf(state.letter).length();
    }

    public int tamper(int number, int left) {
        index(number >= 0 && number < told());
        argument(left, -198, 198);
        int before = state.letter.lefts.get(number);
        become(withLetter(tampered(state.letter, number, left), state.sent));
        return before;
    }

    public int samples() {
        return state.sound.size();
    }

    public int sampleAt(int number) {
        index(number >= 0 && number < state.sound.size());
        return state.sound.get(number);
    }

    public int blocks() {
        return blocks(state.sound.size());
    }

    public int delay() {
        return state.delay;
    }

    public int speed() {
        return state.speed;
    }

    public int allowed() {
        return state.allowed.stream().mapToInt(kind -> 1 << kind).sum();
    }

    public int firstWeight(int weight) {
        argument(weight, 1, 4);
        return state.first.get(weight - 1);
    }

    public double loudness() {
        double sum = state.sound.stream().mapToInt(Math::abs).sum();
        return state.sound.isEmpty() ? 0.0 : sum / state.sound.size();
    }

    public int weightAt(int weight, int number) {
        index(number >= 0 && number <= state.sound.size());
        argument(weight, 1, 4);
        return weight(state.sound, weight, number, state.speed, state.first);
    }

    public int weightByCounting(int weight, int number) {
        index(number >= 0 && number <= state.sound.size());
        argument(weight, 1, 4);
        int times = 0;
        for (int t = 0; t < number; t++) {
            times += Integer.signum(left(4, t)) * Integer.signum(at(state.sound, t - weight));
        }
        return state.first.get(weight - 1) + state.speed * times;
    }

    public int foretold(int kind, int number) {
        index(number >= 0 && number <= state.sound.size());
        argument(kind, 0, 4);
        return foretell(state.sound, kind, number, state.delay, state.speed, state.first);
    }

    public int leftOver(int kind, int number) {
        index(number >= 0 && number < state.sound.size());
        argument(kind, 0, 4);
        return left(kind, number);
    }

    public int sumOf(int kind) {
        argument(kind, 0, 4);
        return sum(kind, state.delay, state.speed, state.first);
    }

    public int sumWithDelay(int delay) {
        argument(delay, 1, 12);
        return sum(3, delay, state.speed, state.first);
    }

    public int bestDelay() {
        int best = 12;
        for (int delay = 11; delay >= 1; delay--) {
            best = sumWithDelay(delay) <= sumWithDelay(best) ? delay : best;
        }
        return best;
    }

    public int bestSpeed() {
        int best = 3;
        for (int speed = 2; speed >= 0; speed--) {
            best = sum(4, 1, speed, state.first) <= sum(4, 1, best, state.first) ? speed : best;
        }
        return best;
    }

    public int bestFirst(int weight) {
        argument(weight, 1, 4);
        int best = 0;
        int least = -1;
        for (int value = 64; value >= -64; value -= 8) {
            int sum = sum(4, 1, state.speed, changed(state.first, weight - 1, value));
            if (least < 0 || sum <= least) {
                least = sum;
                best = value;
            }
        }
        return best;
    }

    public int bitsWith(int block, int kind, int parameter) {
        index(block >= 0 && block < blocks());
        argument(kind, 0, 4);
        argument(parameter, 0, 7);
        return bitsOf(block, kind, parameter);
    }

    public int bestParameter(int block, int kind) {
        index(block >= 0 && block < blocks());
        argument(kind, 0, 4);
        return parameterOf(block, kind);
    }

    public int bestKind(int block) {
        index(block >= 0 && block < blocks());
        return kindOf(block);
    }

    public int whyBest(int block) {
        index(block >= 0 && block < blocks());
        int least = bestBits(block, kindOf(block));
        long asGood = state.allowed.stream().filter(kind -> bestBits(block, kind) == least).count();
        return state.allowed.size() == 1 ? 1 : asGood == 1 ? 2 : 3;
    }

    public int bits() {
        int sum = 0;
        for (int block = 0; block < blocks(); block++) {
            sum += bestBits(block, kindOf(block));
        }
        return sum;
    }

    public int bitsByKinds() {
        return bits();
    }

    public int blocksWith(int kind) {
        argument(kind, 0, 4);
        int count = 0;
        for (int block = 0; block < blocks(); block++) {
            count += kindOf(block) == kind ? 1 : 0;
        }
        return count;
    }

    public int bitsIfOnly(int kind) {
        argument(kind, 0, 4);
        int sum = 0;
        for (int block = 0; block < blocks(); block++) {
            sum += bestBits(block, kind);
        }
        return sum;
    }

    public int told() {
        return state.letter == null ? 0 : state.letter.lefts.size();
    }

    public int letterKind(int block) {
        index(block >= 0 && block < blocks(told()));
        return state.letter.kinds.get(block);
    }

    public int letterParameter(int block) {
        index(block >= 0 && block < blocks(told()));
        return state.letter.parameters.get(block);
    }

    public int letterLeft(int number) {
        index(number >= 0 && number < told());
        return state.letter.lefts.get(number);
    }

    public int letterBits() {
        return bitsOf(state.letter).length();
    }

    public boolean letterBit(int bit) {
        index(bit >= 0 && bit < letterBits());
        return bitsOf(state.letter).charAt(bit) == '1';
    }

    public int heard(int number) {
        index(number >= 0 && number < told());
        return hear(state.letter, state.letter.lefts).get(number);
    }

    public int heardByBits(int number) {
        index(number >= 0 && number < told());
        return hearBits(state.letter).get(number);
    }

    public int unlike() {
        return state.letter == null ? 0 : unlikes(state.letter.lefts);
    }

    public int firstUnlike() {
        for (int t = 0; t < told(); t++) {
            if (heard(t) != state.letter.sound.get(t)) {
                return t;
            }
        }
        return -1;
    }

    public int harm(int number) {
        index(number >= 0 && number < told());
        return unlikes(changed(state.letter.lefts, number, state.letter.lefts.get(number) + 1));
    }

    public int worst() {
        int worst = told() - 1;
        for (int t = worst - 1; t >= 0; t--) {
            worst = harm(t) >= harm(worst) ? t : worst;
        }
        return worst;
    }

    public int sent() {
        return state.sent;
    }

    public int keep(int slot) {
        index(slot == 0 || slot == 1);
        slots[slot] = state;
        return state.sound.size();
    }

    public int goBack(int slot) {
        index(slot == 0 || slot == 1);
        possible(slots[slot] != null);
        become(slots[slot]);
        return state.sound.size();
    }

    public int append(int code) {
        argument(code, 33, 126);
        possible(text.length() < 80);
        text += (char) code;
        return text.length();
    }

    public int clearText() {
        int before = text.length();
        text = "";
        return before;
    }

    public int firstError() {
        for (int end = 1; end <= text.length(); end++) {
            Matcher matcher = WORKS.matcher(text.substring(0, end));
            if (!matcher.matches() && !matcher.hitEnd()) {
                return end - 1;
            }
        }
        return WORKS.matcher(text).matches() ? -1 : text.length();
    }

    public int doWorks() {
        possible(firstError() == -1);
        State before = state;
        List<State> savedBefore = List.copyOf(saved);
        int done = 0;
        for (String work : text.split(";")) {
            try {
                doWork(work);
                done++;
            } catch (RuntimeException e) {
                break;
            }
        }
        State after = state;
        state = before;
        saved.clear();
        saved.addAll(savedBefore);
        become(after);
        text = "";
        return done;
    }

    private void doWork(String work) {
        String rest = work.substring(1);
        int colon = rest.indexOf(':');
        switch (work.charAt(0)) {
            case '+', '-' -> add(Integer.parseInt(work));
            case 'd' -> setDelay(Integer.parseInt(rest));
            case 'v' -> setSpeed(Integer.parseInt(rest));
            case 'k' -> turnKind(Integer.parseInt(rest));
            case 'w' -> setWeight(Integer.parseInt(rest.substring(0, colon)), Integer.parseInt(rest.substring(colon + 1)));
            case 's' -> send();
            case 't' -> tamper(Integer.parseInt(rest.substring(0, colon)), Integer.parseInt(rest.substring(colon + 1)));
            default -> empty();
        }
    }

    public int undo() {
        possible(!saved.isEmpty());
        state = saved.removeLast();
        return saved.size();
    }

    public long digest() {
        List<Long> values = new ArrayList<>();
        put(values, samples(), delay(), speed(), allowed(), bits(), bestDelay(), bestSpeed(), bestFirst(1), told());
        put(values, letterBits(), unlike(), firstUnlike(), worst(), sent(), Double.doubleToLongBits(loudness()));
        for (int weight = 1; weight <= 4; weight++) {
            put(values, firstWeight(weight));
        }
        for (int kind = 0; kind < 5; kind++) {
            put(values, sumOf(kind), blocksWith(kind), bitsIfOnly(kind), foretold(kind, samples()));
        }
        for (int t = 0; t < samples(); t++) {
            put(values, sampleAt(t), leftOver(4, t));
            for (int weight = 1; weight <= 4; weight++) {
                put(values, weightAt(weight, t));
            }
        }
        for (int block = 0; block < blocks(); block++) {
            put(values, bestKind(block), whyBest(block));
            for (int kind = 0; kind < 5; kind++) {
                put(values, bestParameter(block, kind));
            }
        }
        for (int block = 0; block < blocks(told()); block++) {
            put(values, letterKind(block), letterParameter(block));
        }
        for (int t = 0; t < told(); t++) {
            put(values, letterLeft(t), heard(t));
        }
        for (char bit : bitsOf(state.letter).toCharArray()) {
            put(values, bit - '0');
        }
        long hash = 798;
        for (long value : values) {
            hash = 31 * hash + value;
        }
        return hash;
    }

    private static void put(List<Long> values, long... more) {
        for (long value : more) {
            values.add(value);
        }
    }
}
