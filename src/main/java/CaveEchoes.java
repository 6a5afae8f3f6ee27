/**
 * Echoes of a cave that are foretold. What each call promises is told in ../shared/DOC.md; a new
 * object makes all the rows that its calls need, so that a call makes nothing but its exception.
 */
public final class CaveEchoes {
    public static final int NONE = -1;
    public static final int SILENCE = 0, LAST = 1, SLOPE = 2, DELAY = 3, WEIGHED = 4;

    private static final int KINDS = 5;
    private static final int ALL_KINDS = 31;
    private static final int MOST_SAMPLES = 48;
    private static final int BLOCK = 8;
    private static final int MOST_BLOCKS = 6;
    private static final int LOUDEST = 99;
    private static final int MOST_LEFT = 198;
    private static final int MOST_DELAY = 12;
    private static final int MOST_SPEED = 3;
    private static final int WEIGHTS = 4;
    private static final int MOST_FIRST = 64;
    private static final int FIRST_STEP = 8;
    private static final int MOST_PARAMETER = 7;
    private static final int MOST_ECHO = 16;
    private static final int MOST_BACK = 12;
    private static final int MOST_TENTH = 9;
    private static final int HEAD_PLACES = 3;
    private static final int HEAD_BITS = 2 * HEAD_PLACES;
    private static final int MOST_FOLDED = 2 * MOST_LEFT;
    private static final int MOST_BITS = MOST_BLOCKS * HEAD_BITS + MOST_SAMPLES * (MOST_FOLDED + 1);
    private static final int SLOTS = 2;
    private static final int MOST_SAVED = 6;
    private static final int MOST_CODES = 80;
    private static final int LOWEST_CODE = 33;
    private static final int HIGHEST_CODE = 126;
    private static final int MORE_THAN_ANY = 1000000;
    private static final long HASH_START = 798L;

    private final Study study = new Study();
    private final State now = study.state;
    private final History history = new History();
    private final Snapshots snapshots = new Snapshots();
    private final Works works = new Works();
    private final Reader reader = new Reader();
    private final Paper paper = new Paper();

    public CaveEchoes() {
    }

    // ---- the sound and how it is foretold

    public int add(int sample) throws IllegalArgumentException, IllegalStateException {
        needArgument(isWithin(sample, -LOUDEST, LOUDEST));
        needPossible(now.hasRoomFor(1));
        history.save(now);
        now.put(sample);
        return now.count - 1;
    }

    public int echo(int many, int back, int tenth) throws IllegalArgumentException, IllegalStateException {
        needArgument(isWithin(many, 1, MOST_ECHO));
        needArgument(isWithin(back, 1, MOST_BACK));
        needArgument(isWithin(tenth, 1, MOST_TENTH));
        needPossible(now.hasRoomFor(many));
        history.save(now);
        for (int done = 0; done < many; done++) {
            now.put(Math.floorDiv(now.soundAt(now.count - back) * tenth, 10));
        }
        return now.count;
    }

    public int change(int number, int sample) throws IndexOutOfBoundsException, IllegalArgumentException {
        needIndex(isWithin(number, 0, now.count - 1));
        needArgument(isWithin(sample, -LOUDEST, LOUDEST));
        history.save(now);
        int before = now.soundAt(number);
        now.sound[number] = sample;
        return before;
    }

    public int drop() throws IllegalStateException {
        needPossible(now.count > 0);
        history.save(now);
        now.count--;
        return now.sound[now.count];
    }

    public int empty() {
        history.save(now);
        int before = now.count;
        now.count = 0;
        return before;
    }

    public int setDelay(int delay) throws IllegalArgumentException {
        needArgument(isWithin(delay, 1, MOST_DELAY));
        history.save(now);
        int before = now.delay;
        now.delay = delay;
        return before;
    }

    public int setSpeed(int speed) throws IllegalArgumentException {
        needArgument(isWithin(speed, 0, MOST_SPEED));
        history.save(now);
        int before = now.speed;
        now.speed = speed;
        return before;
    }

    public int setWeight(int weight, int value) throws IllegalArgumentException {
        needArgument(isWithin(weight, 1, WEIGHTS));
        needArgument(isWithin(value, -MOST_FIRST, MOST_FIRST));
        history.save(now);
        int before = now.first[weight - 1];
        now.first[weight - 1] = value;
        return before;
    }

    public boolean turnKind(int kind) throws IllegalArgumentException, IllegalStateException {
        needArgument(isKind(kind));
        needPossible(now.canTurn(kind));
        history.save(now);
        now.turn(kind);
        return now.allows(kind);
    }

    // ---- letters

    public int send() throws IllegalStateException {
        needPossible(now.count > 0);
        history.save(now);
        writeLetter();
        return now.letter.countBits();
    }

    public int tamper(int number, int left) throws IndexOutOfBoundsException, IllegalArgumentException {
        needIndex(isTold(number));
        needArgument(isWithin(left, -MOST_LEFT, MOST_LEFT));
        history.save(now);
        int before = now.letter.lefts[number];
        now.letter.lefts[number] = left;
        return before;
    }

    // ---- as it is

    public int samples() {
        return now.count;
    }

    public int sampleAt(int number) throws IndexOutOfBoundsException {
        needIndex(isWithin(number, 0, now.count - 1));
        return now.soundAt(number);
    }

    public int blocks() {
        return blocksOf(now.count);
    }

    public int delay() {
        return now.delay;
    }

    public int speed() {
        return now.speed;
    }

    public int allowed() {
        return now.allowedKinds;
    }

    public int firstWeight(int weight) throws IllegalArgumentException {
        needArgument(isWithin(weight, 1, WEIGHTS));
        return now.first[weight - 1];
    }

    public double loudness() {
        if (now.count <= 0) {
            return 0.0;
        }
        int sum = 0;
        for (int number = 0; number < now.count; number++) {
            sum += Math.abs(now.soundAt(number));
        }
        return (double) sum / (double) now.count;
    }

    // ---- foretelling

    public int weightAt(int weight, int number) throws IndexOutOfBoundsException, IllegalArgumentException {
        needIndex(isWithin(number, 0, now.count));
        needArgument(isWithin(weight, 1, WEIGHTS));
        study.follow();
        return study.weights[weight - 1][number];
    }

    public int weightByCounting(int weight, int number)
            throws IndexOutOfBoundsException, IllegalArgumentException {
        needIndex(isWithin(number, 0, now.count));
        needArgument(isWithin(weight, 1, WEIGHTS));
        study.follow();
        return now.first[weight - 1] + now.speed * study.countRises(weight, number);
    }

    public int foretold(int kind, int number) throws IndexOutOfBoundsException, IllegalArgumentException {
        needIndex(isWithin(number, 0, now.count));
        needArgument(isKind(kind));
        study.follow();
        return study.foretellings[kind][number];
    }

    public int leftOver(int kind, int number) throws IndexOutOfBoundsException, IllegalArgumentException {
        needIndex(isWithin(number, 0, now.count - 1));
        needArgument(isKind(kind));
        study.follow();
        return study.leftBy(kind, number);
    }

    public int sumOf(int kind) throws IllegalArgumentException {
        needArgument(isKind(kind));
        return study.sumBy(kind);
    }

    public int sumWithDelay(int delay) throws IllegalArgumentException {
        needArgument(isWithin(delay, 1, MOST_DELAY));
        return study.sumIf(DELAY, delay, now.speed, now.first);
    }

    public int bestDelay() {
        return study.findDelay();
    }

    public int bestSpeed() {
        return study.findSpeed();
    }

    public int bestFirst(int weight) throws IllegalArgumentException {
        needArgument(isWithin(weight, 1, WEIGHTS));
        return study.findFirst(weight);
    }

    // ---- bits

    public int bitsWith(int block, int kind, int parameter)
            throws IndexOutOfBoundsException, IllegalArgumentException {
        needIndex(isBlock(block));
        needArgument(isKind(kind));
        needArgument(isWithin(parameter, 0, MOST_PARAMETER));
        study.follow();
        return study.countBits(block, kind, parameter);
    }

    public int bestParameter(int block, int kind) throws IndexOutOfBoundsException, IllegalArgumentException {
        needIndex(isBlock(block));
        needArgument(isKind(kind));
        study.weighBlocks();
        return study.parameters[kind][block];
    }

    public int bestKind(int block) throws IndexOutOfBoundsException {
        needIndex(isBlock(block));
        study.weighBlocks();
        return study.kindFor(block);
    }

    public int whyBest(int block) throws IndexOutOfBoundsException {
        needIndex(isBlock(block));
        study.weighBlocks();
        return study.reasonFor(block);
    }

    public int bits() {
        study.weighBlocks();
        return study.sumOfBlocks();
    }

    public int bitsByKinds() {
        study.weighBlocks();
        int sum = 0;
        for (int kind = 0; kind < KINDS; kind++) {
            sum += study.sumOfBlocksWith(kind);
        }
        return sum;
    }

    public int blocksWith(int kind) throws IllegalArgumentException {
        needArgument(isKind(kind));
        study.weighBlocks();
        return study.countBlocksWith(kind);
    }

    public int bitsIfOnly(int kind) throws IllegalArgumentException {
        needArgument(isKind(kind));
        study.weighBlocks();
        return study.sumIfOnly(kind);
    }

    // ---- the letter

    public int told() {
        return now.letter.count;
    }

    public int letterKind(int block) throws IndexOutOfBoundsException {
        needIndex(isWithin(block, 0, blocksOf(now.letter.count) - 1));
        return now.letter.kinds[block];
    }

    public int letterParameter(int block) throws IndexOutOfBoundsException {
        needIndex(isWithin(block, 0, blocksOf(now.letter.count) - 1));
        return now.letter.parameters[block];
    }

    public int letterLeft(int number) throws IndexOutOfBoundsException {
        needIndex(isTold(number));
        return now.letter.lefts[number];
    }

    public int letterBits() {
        return now.letter.countBits();
    }

    public boolean letterBit(int bit) throws IndexOutOfBoundsException {
        needIndex(isWithin(bit, 0, now.letter.countBits() - 1));
        paper.write(now.letter);
        return paper.isOne(bit);
    }

    public int heard(int number) throws IndexOutOfBoundsException {
        needIndex(isTold(number));
        reader.read(now.letter, NONE);
        return reader.heardAt(number);
    }

    public int heardByBits(int number) throws IndexOutOfBoundsException {
        needIndex(isTold(number));
        paper.write(now.letter);
        reader.readBits(now.letter, paper);
        return reader.heardAt(number);
    }

    public int unlike() {
        reader.read(now.letter, NONE);
        return reader.countUnlike(now.letter);
    }

    public int firstUnlike() {
        reader.read(now.letter, NONE);
        return reader.findUnlike(now.letter);
    }

    public int harm(int number) throws IndexOutOfBoundsException {
        needIndex(isTold(number));
        reader.read(now.letter, number);
        return reader.countUnlike(now.letter);
    }

    public int worst() {
        int worstNumber = NONE;
        int most = -1;
        for (int number = 0; number < now.letter.count; number++) {
            reader.read(now.letter, number);
            int unlikes = reader.countUnlike(now.letter);
            if (unlikes > most) {
                most = unlikes;
                worstNumber = number;
            }
        }
        return worstNumber;
    }

    public int sent() {
        return now.lettersSent;
    }

    // ---- snapshots

    public int keep(int slot) throws IndexOutOfBoundsException {
        needIndex(isWithin(slot, 0, SLOTS - 1));
        snapshots.put(slot, now);
        return now.count;
    }

    public int goBack(int slot) throws IndexOutOfBoundsException, IllegalStateException {
        needIndex(isWithin(slot, 0, SLOTS - 1));
        needPossible(snapshots.has(slot));
        history.save(now);
        snapshots.restore(slot, now);
        return now.count;
    }

    // ---- the text

    public int append(int code) throws IllegalArgumentException, IllegalStateException {
        needArgument(isWithin(code, LOWEST_CODE, HIGHEST_CODE));
        needPossible(works.length < MOST_CODES);
        works.put(code);
        return works.length;
    }

    public int clearText() {
        int before = works.length;
        works.length = 0;
        return before;
    }

    public int firstError() {
        return works.findFault();
    }

    public int doWorks() throws IllegalStateException {
        needPossible(works.findFault() == NONE);
        history.save(now);
        works.at = 0;
        int done = 0;
        // a work has a character at least, so the text's length bounds the works
        while (done < MOST_CODES && works.readWork() && doWork()) {
            done++;
            works.take(';');
        }
        works.length = 0;
        return done;
    }

    // ---- undo

    public int undo() throws IllegalStateException {
        needPossible(history.count > 0);
        history.restore(now);
        return history.count;
    }

    public long digest() {
        study.weighBlocks();
        long hash = hashOfAll(HASH_START);
        hash = hashOfKinds(hash);
        hash = hashOfSamples(hash);
        hash = hashOfBlocks(hash);
        return hashOfLetter(hash);
    }

    // ---- what the calls share

    private static void needIndex(boolean good) {
        if (!good) {
            throw new IndexOutOfBoundsException("there is no such sample, block, bit or slot");
        }
    }

    private static void needArgument(boolean good) {
        if (!good) {
            throw new IllegalArgumentException("an argument is out of its range");
        }
    }

    private static void needPossible(boolean good) {
        if (!good) {
            throw new IllegalStateException("the call is not possible as things are");
        }
    }

    private static boolean isWithin(int value, int least, int most) {
        return value >= least && value <= most;
    }

    private static boolean isKind(int kind) {
        return isWithin(kind, 0, KINDS - 1);
    }

    private boolean isBlock(int block) {
        return isWithin(block, 0, blocksOf(now.count) - 1);
    }

    private boolean isTold(int number) {
        return isWithin(number, 0, now.letter.count - 1);
    }

    private static int blocksOf(int count) {
        return (count + BLOCK - 1) / BLOCK;
    }

    private static int limit(int value) {
        return value > LOUDEST ? LOUDEST : value < -LOUDEST ? -LOUDEST : value;
    }

    private static int fold(int left) {
        return left >= 0 ? 2 * left : -2 * left - 1;
    }

    private static int unfold(int folded) {
        return (folded & 1) == 0 ? folded / 2 : -(folded + 1) / 2;
    }

    private static int bitsOfFolded(int folded, int parameter) {
        return (folded >> parameter) + 1 + parameter;
    }

    private static boolean haveSameSign(int one, int other) {
        return one > 0 == other > 0;
    }

    /** Writes a letter in place of the one before, if there is a sound; tells whether it did. */
    private boolean writeLetter() {
        if (now.count <= 0) {
            return false;
        }
        study.follow();
        study.findParameters();
        Letter letter = now.letter;
        letter.count = now.count;
        letter.delay = now.delay;
        letter.speed = now.speed;
        System.arraycopy(now.first, 0, letter.first, 0, WEIGHTS);
        for (int block = 0; block < blocksOf(now.count); block++) {
            int kind = study.kindFor(block);
            letter.kinds[block] = kind;
            letter.parameters[block] = study.parameters[kind][block];
        }
        for (int number = 0; number < now.count; number++) {
            letter.sound[number] = now.sound[number];
            letter.lefts[number] = study.leftBy(letter.kinds[number / BLOCK], number);
        }
        now.lettersSent++;
        return true;
    }

    /** Does the work that was read last, if the call for it would not throw; tells whether it did. */
    private boolean doWork() {
        switch (works.work) {
            case '+':
                return addIfPossible(works.value);
            case '-':
                return addIfPossible(-works.value);
            case 'k':
                return turnIfPossible(works.value);
            case 's':
                return writeLetter();
            case 't':
                return tamperIfPossible(works.place, works.value);
            case 'd':
                now.delay = works.value;
                return true;
            case 'v':
                now.speed = works.value;
                return true;
            case 'w':
                return setFirst(works.place, works.value);
            case 'x':
                now.count = 0;
                return true;
            default:
                return false;
        }
    }

    private boolean addIfPossible(int sample) {
        boolean possible = now.hasRoomFor(1);
        if (possible) {
            now.put(sample);
        }
        return possible;
    }

    private boolean turnIfPossible(int kind) {
        boolean possible = now.canTurn(kind);
        if (possible) {
            now.turn(kind);
        }
        return possible;
    }

    private boolean tamperIfPossible(int number, int left) {
        boolean possible = isTold(number);
        if (possible) {
            now.letter.lefts[number] = left;
        }
        return possible;
    }

    private boolean setFirst(int weight, int value) {
        boolean possible = isWithin(weight, 1, WEIGHTS);
        if (possible) {
            now.first[weight - 1] = value;
        }
        return possible;
    }

    // ---- parts of the digest, which find the study made

    private static long mix(long hash, long value) {
        return 31L * hash + value;
    }

    private long hashOfAll(long start) {
        long hash = mix(start, now.count);
        hash = mix(hash, now.delay);
        hash = mix(hash, now.speed);
        hash = mix(hash, now.allowedKinds);
        hash = mix(hash, study.sumOfBlocks());
        hash = mix(hash, study.findDelay());
        hash = mix(hash, study.findSpeed());
        hash = mix(hash, study.findFirst(1));
        hash = mix(hash, now.letter.count);
        hash = mix(hash, now.letter.countBits());
        hash = mix(hash, unlike());
        hash = mix(hash, firstUnlike());
        hash = mix(hash, worst());
        hash = mix(hash, now.lettersSent);
        hash = mix(hash, bitsOfDouble(loudness()));
        for (int weight = 1; weight <= WEIGHTS; weight++) {
            hash = mix(hash, now.first[weight - 1]);
        }
        return hash;
    }

    private long hashOfKinds(long start) {
        long hash = start;
        for (int kind = 0; kind < KINDS; kind++) {
            hash = mix(hash, study.sumBy(kind));
            hash = mix(hash, study.countBlocksWith(kind));
            hash = mix(hash, study.sumIfOnly(kind));
            hash = mix(hash, study.foretellings[kind][now.count]);
        }
        return hash;
    }

    private long hashOfSamples(long start) {
        long hash = start;
        for (int number = 0; number < now.count; number++) {
            hash = mix(hash, now.soundAt(number));
            hash = mix(hash, study.leftBy(WEIGHED, number));
            for (int weight = 1; weight <= WEIGHTS; weight++) {
                hash = mix(hash, study.weights[weight - 1][number]);
            }
        }
        return hash;
    }

    private long hashOfBlocks(long start) {
        long hash = start;
        for (int block = 0; block < blocksOf(now.count); block++) {
            hash = mix(hash, study.kindFor(block));
            hash = mix(hash, study.reasonFor(block));
            for (int kind = 0; kind < KINDS; kind++) {
                hash = mix(hash, study.parameters[kind][block]);
            }
        }
        return hash;
    }

    private long hashOfLetter(long start) {
        Letter letter = now.letter;
        long hash = start;
        for (int block = 0; block < blocksOf(letter.count); block++) {
            hash = mix(hash, letter.kinds[block]);
            hash = mix(hash, letter.parameters[block]);
        }
        reader.read(letter, NONE);
        for (int number = 0; number < letter.count; number++) {
            hash = mix(hash, letter.lefts[number]);
            hash = mix(hash, reader.heardAt(number));
        }
        paper.write(letter);
        for (int bit = 0; bit < paper.length; bit++) {
            hash = mix(hash, paper.isOne(bit) ? 1L : 0L);
        }
        return hash;
    }

    /**
     * What Double.doubleToLongBits tells, which the language rules leave out; for 0.0 and for the
     * values of loudness() alone, which are neither below 0 nor too small or too great to be normal.
     */
    private static long bitsOfDouble(double value) {
        if (value <= 0.0) {
            return 0L;
        }
        double part = value;
        long exponent = 1023L;
        while (part >= 2.0 && exponent < 2046L) {
            part = part / 2.0;
            exponent++;
        }
        while (part < 1.0 && exponent > 1L) {
            part = part * 2.0;
            exponent--;
        }
        return (exponent << 52) | (long) ((part - 1.0) * 4503599627370496.0);
    }

    /** All that a saved state and a snapshot hold. */
    private static final class State {
        final int[] sound = new int[MOST_SAMPLES];
        final int[] first = {16, 0, 0, 0};
        final Letter letter = new Letter();
        int count = 0;
        int delay = 4;
        int speed = 1;
        int allowedKinds = ALL_KINDS;
        int lettersSent = 0;

        void copyFrom(State other) {
            System.arraycopy(other.sound, 0, sound, 0, MOST_SAMPLES);
            System.arraycopy(other.first, 0, first, 0, WEIGHTS);
            letter.copyFrom(other.letter);
            count = other.count;
            delay = other.delay;
            speed = other.speed;
            allowedKinds = other.allowedKinds;
            lettersSent = other.lettersSent;
        }

        int soundAt(int number) {
            return number >= 0 && number < count ? sound[number] : 0;
        }

        boolean hasRoomFor(int many) {
            return count + many <= MOST_SAMPLES;
        }

        void put(int sample) {
            if (hasRoomFor(1)) {
                sound[count] = sample;
                count++;
            }
        }

        boolean allows(int kind) {
            return (allowedKinds >> kind & 1) == 1;
        }

        boolean canTurn(int kind) {
            return allowedKinds != 1 << kind;
        }

        void turn(int kind) {
            allowedKinds ^= 1 << kind;
        }
    }

    /** A letter, and the sound that was sent by it; a letter that tells no sample is none. */
    private static final class Letter {
        final int[] first = new int[WEIGHTS];
        final int[] kinds = new int[MOST_BLOCKS];
        final int[] parameters = new int[MOST_BLOCKS];
        final int[] lefts = new int[MOST_SAMPLES];
        final int[] sound = new int[MOST_SAMPLES];
        int count = 0;
        int delay = 1;
        int speed = 0;

        void copyFrom(Letter other) {
            System.arraycopy(other.first, 0, first, 0, WEIGHTS);
            System.arraycopy(other.kinds, 0, kinds, 0, MOST_BLOCKS);
            System.arraycopy(other.parameters, 0, parameters, 0, MOST_BLOCKS);
            System.arraycopy(other.lefts, 0, lefts, 0, MOST_SAMPLES);
            System.arraycopy(other.sound, 0, sound, 0, MOST_SAMPLES);
            count = other.count;
            delay = other.delay;
            speed = other.speed;
        }

        int countBits() {
            int bits = blocksOf(count) * HEAD_BITS;
            for (int number = 0; number < count; number++) {
                bits += bitsOfFolded(fold(lefts[number]), parameters[number / BLOCK]);
            }
            return bits;
        }
    }

    /** The saved states, the oldest one first; the rows behind them are used again. */
    private static final class History {
        final State[] saved = new State[MOST_SAVED];
        int count = 0;

        History() {
            for (int place = 0; place < MOST_SAVED; place++) {
                saved[place] = new State();
            }
        }

        void save(State state) {
            if (count >= MOST_SAVED) {
                forgetOldest();
            }
            saved[count].copyFrom(state);
            count++;
        }

        void forgetOldest() {
            State oldest = saved[0];
            for (int place = 1; place < MOST_SAVED; place++) {
                saved[place - 1] = saved[place];
            }
            saved[MOST_SAVED - 1] = oldest;
            count = MOST_SAVED - 1;
        }

        void restore(State state) {
            if (count > 0) {
                count--;
                state.copyFrom(saved[count]);
            }
        }
    }

    private static final class Snapshots {
        final State[] kept = {new State(), new State()};
        final boolean[] full = new boolean[SLOTS];

        boolean has(int slot) {
            return full[slot];
        }

        void put(int slot, State state) {
            kept[slot].copyFrom(state);
            full[slot] = true;
        }

        void restore(int slot, State state) {
            state.copyFrom(kept[slot]);
        }
    }

    /** Foretells the next sample from those shown to it: one way for who sends and for who reads. */
    private static final class Foreteller {
        final int[] shown = new int[MOST_SAMPLES];
        final int[] weights = new int[WEIGHTS];
        int count = 0;
        int delay = 1;
        int speed = 0;
        int weighed = 0;

        void begin(int theDelay, int theSpeed, int[] first) {
            System.arraycopy(first, 0, weights, 0, WEIGHTS);
            count = 0;
            delay = theDelay;
            speed = theSpeed;
            weigh();
        }

        int shownBefore(int back) {
            int number = count - back;
            return number >= 0 && number < MOST_SAMPLES ? shown[number] : 0;
        }

        int foretell(int kind) {
            switch (kind) {
                case LAST:
                    return shownBefore(1);
                case SLOPE:
                    return limit(2 * shownBefore(1) - shownBefore(2));
                case DELAY:
                    return shownBefore(delay);
                case WEIGHED:
                    return weighed;
                default:
                    return 0;
            }
        }

        void show(int sample) {
            adapt(sample - weighed);
            if (count < MOST_SAMPLES) {
                shown[count] = sample;
                count++;
            }
            weigh();
        }

        void weigh() {
            int sum = 8;
            for (int weight = 1; weight <= WEIGHTS; weight++) {
                sum += weights[weight - 1] * shownBefore(weight);
            }
            weighed = limit(Math.floorDiv(sum, 16));
        }

        void adapt(int left) {
            for (int weight = 1; weight <= WEIGHTS; weight++) {
                int earlier = shownBefore(weight);
                if (left != 0 && earlier != 0) {
                    weights[weight - 1] += haveSameSign(left, earlier) ? speed : -speed;
                }
            }
        }
    }

    /** The state as it is now, and what is foretold for its sound: made anew for each call, never kept. */
    private static final class Study {
        final State state = new State();
        final Foreteller foreteller = new Foreteller();
        final int[] otherFirst = new int[WEIGHTS];
        final int[][] foretellings = new int[KINDS][MOST_SAMPLES + 1];
        final int[][] weights = new int[WEIGHTS][MOST_SAMPLES + 1];
        final int[][] parameters = new int[KINDS][MOST_BLOCKS];
        final int[][] fewestBits = new int[KINDS][MOST_BLOCKS];

        /** Makes the rows of what is foretold and of weights, up to the sample that may come next. */
        void follow() {
            foreteller.begin(state.delay, state.speed, state.first);
            for (int number = 0; number <= state.count; number++) {
                for (int kind = 0; kind < KINDS; kind++) {
                    foretellings[kind][number] = foreteller.foretell(kind);
                }
                for (int weight = 1; weight <= WEIGHTS; weight++) {
                    weights[weight - 1][number] = foreteller.weights[weight - 1];
                }
                foreteller.show(state.soundAt(number));
            }
        }

        int leftBy(int kind, int number) {
            return state.sound[number] - foretellings[kind][number];
        }

        /** How often a weight became greater ahead of a sample, less how often it became less. */
        int countRises(int weight, int number) {
            int rises = 0;
            for (int behind = 0; behind < number; behind++) {
                int left = leftBy(WEIGHED, behind);
                int earlier = state.soundAt(behind - weight);
                if (left != 0 && earlier != 0) {
                    rises += haveSameSign(left, earlier) ? 1 : -1;
                }
            }
            return rises;
        }

        int sumBy(int kind) {
            return sumIf(kind, state.delay, state.speed, state.first);
        }

        int sumIf(int kind, int delay, int speed, int[] first) {
            foreteller.begin(delay, speed, first);
            int sum = 0;
            for (int number = 0; number < state.count; number++) {
                int sample = state.soundAt(number);
                sum += Math.abs(sample - foreteller.foretell(kind));
                foreteller.show(sample);
            }
            return sum;
        }

        int findDelay() {
            int best = 1;
            int least = MORE_THAN_ANY;
            for (int delay = 1; delay <= MOST_DELAY; delay++) {
                int sum = sumIf(DELAY, delay, state.speed, state.first);
                if (sum < least) {
                    least = sum;
                    best = delay;
                }
            }
            return best;
        }

        int findSpeed() {
            int best = 0;
            int least = MORE_THAN_ANY;
            for (int speed = 0; speed <= MOST_SPEED; speed++) {
                int sum = sumIf(WEIGHED, state.delay, speed, state.first);
                if (sum < least) {
                    least = sum;
                    best = speed;
                }
            }
            return best;
        }

        int findFirst(int weight) {
            System.arraycopy(state.first, 0, otherFirst, 0, WEIGHTS);
            int best = -MOST_FIRST;
            int least = MORE_THAN_ANY;
            for (int value = -MOST_FIRST; value <= MOST_FIRST; value += FIRST_STEP) {
                otherFirst[weight - 1] = value;
                int sum = sumIf(WEIGHED, state.delay, state.speed, otherFirst);
                if (sum < least) {
                    least = sum;
                    best = value;
                }
            }
            return best;
        }

        /** Makes the rows of best parameters and of their bits, by first making those of follow(). */
        void weighBlocks() {
            follow();
            findParameters();
        }

        void findParameters() {
            for (int block = 0; block < blocksOf(state.count); block++) {
                for (int kind = 0; kind < KINDS; kind++) {
                    findParameter(block, kind);
                }
            }
        }

        void findParameter(int block, int kind) {
            parameters[kind][block] = 0;
            fewestBits[kind][block] = countBits(block, kind, 0);
            for (int parameter = 1; parameter <= MOST_PARAMETER; parameter++) {
                int bits = countBits(block, kind, parameter);
                if (bits < fewestBits[kind][block]) {
                    fewestBits[kind][block] = bits;
                    parameters[kind][block] = parameter;
                }
            }
        }

        int countBits(int block, int kind, int parameter) {
            int bits = HEAD_BITS;
            int end = Math.min((block + 1) * BLOCK, state.count);
            for (int number = block * BLOCK; number < end; number++) {
                bits += bitsOfFolded(fold(leftBy(kind, number)), parameter);
            }
            return bits;
        }

        int kindFor(int block) {
            int best = SILENCE;
            int fewest = MORE_THAN_ANY;
            for (int kind = 0; kind < KINDS; kind++) {
                if (state.allows(kind) && fewestBits[kind][block] < fewest) {
                    fewest = fewestBits[kind][block];
                    best = kind;
                }
            }
            return best;
        }

        int reasonFor(int block) {
            int best = kindFor(block);
            boolean alone = true;
            boolean ahead = true;
            for (int kind = 0; kind < KINDS; kind++) {
                if (kind != best && state.allows(kind)) {
                    alone = false;
                    ahead = ahead && fewestBits[kind][block] > fewestBits[best][block];
                }
            }
            return alone ? 1 : ahead ? 2 : 3;
        }

        int sumOfBlocks() {
            int sum = 0;
            for (int block = 0; block < blocksOf(state.count); block++) {
                sum += fewestBits[kindFor(block)][block];
            }
            return sum;
        }

        int sumOfBlocksWith(int kind) {
            int sum = 0;
            for (int block = 0; block < blocksOf(state.count); block++) {
                sum += kindFor(block) == kind ? fewestBits[kind][block] : 0;
            }
            return sum;
        }

        int countBlocksWith(int kind) {
            int blocks = 0;
            for (int block = 0; block < blocksOf(state.count); block++) {
                blocks += kindFor(block) == kind ? 1 : 0;
            }
            return blocks;
        }

        int sumIfOnly(int kind) {
            int sum = 0;
            for (int block = 0; block < blocksOf(state.count); block++) {
                sum += fewestBits[kind][block];
            }
            return sum;
        }
    }

    /** Who hears the sound again, from a letter or from its bits. */
    private static final class Reader {
        final Foreteller foreteller = new Foreteller();

        /** Reads the left-overs of a letter, the one with the number as if it was 1 more. */
        void read(Letter letter, int more) {
            foreteller.begin(letter.delay, letter.speed, letter.first);
            for (int number = 0; number < letter.count; number++) {
                int left = letter.lefts[number] + (number == more ? 1 : 0);
                foreteller.show(limit(foreteller.foretell(letter.kinds[number / BLOCK]) + left));
            }
        }

        void readBits(Letter letter, Paper paper) {
            foreteller.begin(letter.delay, letter.speed, letter.first);
            paper.at = 0;
            int kind = SILENCE;
            int parameter = 0;
            for (int number = 0; number < letter.count; number++) {
                if (number % BLOCK == 0) {
                    kind = paper.readNumber(HEAD_PLACES);
                    parameter = paper.readNumber(HEAD_PLACES);
                }
                int left = unfold(paper.readFolded(parameter));
                foreteller.show(limit(foreteller.foretell(kind) + left));
            }
        }

        int heardAt(int number) {
            return number >= 0 && number < foreteller.count ? foreteller.shown[number] : 0;
        }

        int countUnlike(Letter letter) {
            int unlikes = 0;
            for (int number = 0; number < letter.count; number++) {
                unlikes += heardAt(number) != letter.sound[number] ? 1 : 0;
            }
            return unlikes;
        }

        int findUnlike(Letter letter) {
            for (int number = 0; number < letter.count; number++) {
                if (heardAt(number) != letter.sound[number]) {
                    return number;
                }
            }
            return NONE;
        }
    }

    /** The bits of a letter, written one after the other, and read again from the first one on. */
    private static final class Paper {
        final boolean[] ones = new boolean[MOST_BITS];
        int length = 0;
        int at = 0;

        void write(Letter letter) {
            length = 0;
            for (int number = 0; number < letter.count; number++) {
                int block = number / BLOCK;
                if (number % BLOCK == 0) {
                    writeNumber(letter.kinds[block], HEAD_PLACES);
                    writeNumber(letter.parameters[block], HEAD_PLACES);
                }
                writeFolded(fold(letter.lefts[number]), letter.parameters[block]);
            }
        }

        void writeFolded(int folded, int parameter) {
            for (int ones = folded >> parameter; ones > 0; ones--) {
                writeBit(true);
            }
            writeBit(false);
            writeNumber(folded, parameter);
        }

        /** Writes the lowest places of a number, the highest one of them first. */
        void writeNumber(int number, int places) {
            for (int place = places - 1; place >= 0; place--) {
                writeBit((number >> place & 1) == 1);
            }
        }

        void writeBit(boolean one) {
            if (length < MOST_BITS) {
                ones[length] = one;
                length++;
            }
        }

        boolean isOne(int bit) {
            return bit >= 0 && bit < length && ones[bit];
        }

        boolean readBit() {
            boolean one = isOne(at);
            at++;
            return one;
        }

        int readNumber(int places) {
            int number = 0;
            for (int place = 0; place < places; place++) {
                number = 2 * number + (readBit() ? 1 : 0);
            }
            return number;
        }

        int readFolded(int parameter) {
            int high = 0;
            while (high < MOST_BITS && readBit()) {
                high++;
            }
            return (high << parameter) + readNumber(parameter);
        }
    }

    /** The text, and the works that are read from it one by one. */
    private static final class Works {
        final int[] codes = new int[MOST_CODES];
        int length = 0;
        int at = 0;
        int work = 0;
        int place = 0;
        int value = 0;

        void put(int code) {
            if (length < MOST_CODES) {
                codes[length] = code;
                length++;
            }
        }

        /** Tells the place of the first error; reading always stops on it, or on the text's end. */
        int findFault() {
            at = 0;
            // a work has a character at least, so the text's length bounds the works
            for (int works = 0; works < MOST_CODES; works++) {
                if (!readWork()) {
                    return at;
                }
                if (!take(';')) {
                    return at == length ? NONE : at;
                }
            }
            return at;
        }

        boolean readWork() {
            work = codeHere();
            switch (work) {
                case '+':
                case '-':
                    return take(work) && readValue(0, LOUDEST);
                case 'd':
                    return take(work) && readValue(1, MOST_DELAY);
                case 'v':
                    return take(work) && readValue(0, MOST_SPEED);
                case 'k':
                    return take(work) && readValue(0, KINDS - 1);
                case 'w':
                    return take(work) && readPlace(1, WEIGHTS) && readSigned(MOST_FIRST);
                case 't':
                    return take(work) && readPlace(0, MOST_SAMPLES - 1) && readSigned(MOST_LEFT);
                case 's':
                case 'x':
                    return take(work);
                default:
                    return false;
            }
        }

        boolean readValue(int least, int most) {
            value = readNumber(least, most);
            return value != NONE;
        }

        boolean readPlace(int least, int most) {
            place = readNumber(least, most);
            return place != NONE && take(':');
        }

        boolean readSigned(int most) {
            boolean negative = take('-');
            int size = readNumber(0, most);
            value = negative ? -size : size;
            return size != NONE;
        }

        /**
         * Reads a number digit by digit, as long as it stays in its range, or answers NONE. The
         * least number is 0 or 1, so a first digit in the range is a number by itself.
         */
        int readNumber(int least, int most) {
            int number = digitHere();
            if (number < least || number > most) {
                return NONE;
            }
            at++;
            while (at < length && number > 0 && digitHere() != NONE && 10 * number + digitHere() <= most) {
                number = 10 * number + digitHere();
                at++;
            }
            return number;
        }

        boolean take(int code) {
            boolean here = codeHere() == code;
            if (here) {
                at++;
            }
            return here;
        }

        int digitHere() {
            int code = codeHere();
            return code >= '0' && code <= '9' ? code - '0' : NONE;
        }

        /** Tells the code that is read next, 0 at the end of the text. */
        int codeHere() {
            return at >= 0 && at < length && at < MOST_CODES ? codes[at] : 0;
        }
    }
}
