import java.util.Arrays;
import java.util.stream.IntStream;

/** What several tests of boundary cases use. */
final class Edge {
    static final int MIN = Integer.MIN_VALUE;
    static final int MAX = Integer.MAX_VALUE;

    private Edge() {
    }

    /** Numbers outside of a range: next to it, at the ends of the type, and what a shorter type would take for one inside. */
    static int[] outside(int least, int most) {
        int[] tried = {least - 1, most + 1, -1, least - 256, most + 256, least + 65536, most - 65536, MIN, MIN + 1,
            MAX, MAX - 1};
        return Arrays.stream(tried).filter(n -> n < least || n > most).distinct().toArray();
    }

    /** Numbers of lights or routes that are not there: a shift by 32 or 64 would find the first one. */
    static int[] noNumber(int many) {
        return IntStream.concat(Arrays.stream(outside(0, many - 1)), IntStream.of(many + 1, 32, 64, many + 32)).toArray();
    }

    /** Sets that are negative, or hold a light that is not there. */
    static int[] noSet(int lights) {
        int one = 1 << lights;
        return new int[] {one, one + 1, 2 * one - 1, one << 1, 1 << 30, MAX, MIN, MIN + 1, -1, -2, -one};
    }

    /** Lights with a rated time of 60 minutes and a reach of 4, which endure 75 minutes. */
    static EscapeLights lightsAt(int... places) {
        EscapeLights x = new EscapeLights();
        for (int place : places) {
            x.add(place, 0, 0, 0);
        }
        return x;
    }

    /** Lets so many hours pass, in as few calls as can be. */
    static void pass(EscapeLights x, int hours) {
        for (int left = hours; left > 0; left -= 2000) {
            x.pass(Math.min(left, 2000));
        }
    }

    static void test(EscapeLights x, int set, int times) {
        for (int k = 0; k < times; k++) {
            x.test(set, true);
        }
    }
}
