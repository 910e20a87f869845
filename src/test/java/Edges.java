import java.util.ArrayList;
import java.util.Arrays;
import java.util.List;
import java.util.function.Supplier;
import java.util.function.ToLongFunction;

/** Asks on both sides of a boundary: what a call answers there, and what later calls show of it. */
final class Edges {
    static final int NONE = -1, BAD = -2, NOT = -3, FULL = -4;
    static final int NULL = 1, INDEX = 2, CAST = 3, STORE = 4, SIZE = 5;
    static final int LEAST = Integer.MIN_VALUE, MOST = Integer.MAX_VALUE;

    private final Due due = new Due();

    void is(String call, long got, long want) {
        due.is(call, got, want);
    }

    void end() {
        due.end();
    }

    /** Each of a row of numbers is answered as the row of what is due says. */
    void row(String call, long[] got, long... want) {
        is(call + ": how many", got.length, want.length);
        for (int i = 0; i < want.length && i < got.length; i++) {
            is(call + ", number " + i, got[i], want[i]);
        }
    }

    /** A call that is refused without a finding: all is as if it had not been, count(8) too. */
    void refused(String call, Supplier<WoodliceSenate> made, ToLongFunction<WoodliceSenate> asked, long want) {
        changesNothing(call, made, asked, want);
    }

    /** A call behind which all is as if it had not been. */
    void changesNothing(String call, Supplier<WoodliceSenate> made, ToLongFunction<WoodliceSenate> asked, long want) {
        WoodliceSenate x = made.get();
        WoodliceSenate y = made.get();
        is(call, asked.applyAsLong(x), want);
        is("count(8) behind " + call, x.count(8), y.count(8));
        alike("behind " + call, x, y);
    }

    /** A call that is refused with a finding: all but count(8) is as if it had not been. */
    void finds(String call, Supplier<WoodliceSenate> made, ToLongFunction<WoodliceSenate> asked, int finding) {
        findsBy(call, made, asked, -10 - finding, finding);
    }

    void findsBy(String call, Supplier<WoodliceSenate> made, ToLongFunction<WoodliceSenate> asked, long want,
            int finding) {
        WoodliceSenate x = made.get();
        WoodliceSenate y = made.get();
        is(call, asked.applyAsLong(x), want);
        is("count(8) behind " + call, x.count(8), finding);
        y.count(8);
        alike("behind " + call, x, y);
    }

    /** Two objects answer all the same but count(8). They are used up by it. */
    void alike(String what, WoodliceSenate x, WoodliceSenate y) {
        long[] one = allThatShows(x);
        long[] other = allThatShows(y);
        is(what + ": nothing is changed", Arrays.mismatch(one, other), -1);
    }

    void unlike(String what, WoodliceSenate x, WoodliceSenate y) {
        is(what + ": something is changed", Arrays.equals(allThatShows(x), allThatShows(y)) ? 1 : 0, 0);
    }

    /** All that an object can be asked: at most 400 calls, in which it is taken apart. */
    private static long[] allThatShows(WoodliceSenate x) {
        List<Long> all = new ArrayList<>();
        all.add(x.digest());
        for (int s = 0; s < 4; s++) {
            addSheet(all, x, s);
        }
        for (int left = x.count(1); left > 0; left--) {
            all.add((long) x.back());
            all.add((long) x.carried());
        }
        all.add((long) x.forget());
        // What comes off a text at its end shows its bytes, of one with a fault, too.
        for (int text = 0; text < 2; text++) {
            for (int left = x.count(2 + text); left > 0; left--) {
                all.add((long) x.fault(text));
                all.add(text == 0 ? (long) x.stone(left - 1) : x.member(left / 4, 1));
                all.add((long) x.undo(text));
            }
        }
        return all.stream().mapToLong(Long::longValue).toArray();
    }

    private static void addSheet(List<Long> all, WoodliceSenate x, int s) {
        for (int form = 0; form < 3; form++) {
            int item = x.get(s, form, 0);
            for (int i = 1; i <= 60 && item != LEAST; i++) {
                all.add((long) item);
                item = x.get(s, form, i);
            }
            all.add((long) x.count(8));
        }
        all.add((long) x.lose(s));
    }
}
