import java.math.BigInteger;
import java.util.ArrayList;
import java.util.List;

/**
 * The digest as promise 58 tells it, out of the public answers alone. An object is good for 512
 * calls, so that several are built alike and asked one after the other.
 */
final class Digest {
    private static final int MOST_ASKED = 250;

    private final Checks.Script built;
    private final List<Long> values = new ArrayList<>();
    private CaveEchoes cave;
    private int asked = MOST_ASKED;

    private Digest(Checks.Script built) {
        this.built = built;
    }

    static long of(Checks.Script built) {
        return whole(built).longValue();
    }

    /** The hash without any overflow. */
    static BigInteger whole(Checks.Script built) {
        Digest digest = new Digest(built);
        digest.all();
        digest.samples();
        digest.blocks();
        digest.letter();
        BigInteger hash = BigInteger.valueOf(798);
        for (long value : digest.values) {
            hash = hash.multiply(BigInteger.valueOf(31)).add(BigInteger.valueOf(value));
        }
        return hash;
    }

    private CaveEchoes ask() {
        if (asked >= MOST_ASKED) {
            cave = Checks.make(built);
            asked = 0;
        }
        asked++;
        return cave;
    }

    private void put(long value) {
        values.add(value);
    }

    private void all() {
        put(ask().samples());
        put(ask().delay());
        put(ask().speed());
        put(ask().allowed());
        put(ask().bits());
        put(ask().bestDelay());
        put(ask().bestSpeed());
        put(ask().bestFirst(1));
        put(ask().told());
        put(ask().letterBits());
        put(ask().unlike());
        put(ask().firstUnlike());
        put(ask().worst());
        put(ask().sent());
        put(Double.doubleToLongBits(ask().loudness()));
        for (int weight = 1; weight <= 4; weight++) {
            put(ask().firstWeight(weight));
        }
        for (int kind = 0; kind < 5; kind++) {
            put(ask().sumOf(kind));
            put(ask().blocksWith(kind));
            put(ask().bitsIfOnly(kind));
            put(ask().foretold(kind, ask().samples()));
        }
    }

    private void samples() {
        int samples = ask().samples();
        for (int number = 0; number < samples; number++) {
            put(ask().sampleAt(number));
            put(ask().leftOver(CaveEchoes.WEIGHED, number));
            for (int weight = 1; weight <= 4; weight++) {
                put(ask().weightAt(weight, number));
            }
        }
    }

    private void blocks() {
        int blocks = ask().blocks();
        for (int block = 0; block < blocks; block++) {
            put(ask().bestKind(block));
            put(ask().whyBest(block));
            for (int kind = 0; kind < 5; kind++) {
                put(ask().bestParameter(block, kind));
            }
        }
    }

    private void letter() {
        int told = ask().told();
        for (int block = 0; 8 * block < told; block++) {
            put(ask().letterKind(block));
            put(ask().letterParameter(block));
        }
        for (int number = 0; number < told; number++) {
            put(ask().letterLeft(number));
            put(ask().heard(number));
        }
        int bits = ask().letterBits();
        for (int bit = 0; bit < bits; bit++) {
            put(ask().letterBit(bit) ? 1 : 0);
        }
    }
}
