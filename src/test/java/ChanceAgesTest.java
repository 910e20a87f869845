/** Promises 29 and 30: chances as fractions, ages by a seed. */
public final class ChanceAgesTest {
    private static final Due DUE = new Due();
    private static final long BAD = Long.MIN_VALUE + 2;

    private ChanceAgesTest() {
    }

    public static void main(String[] args) {
        chanceOfOne();
        chanceOfTwo();
        chanceOfEight();
        chanceRefused();
        agesOfOne();
        agesAsTold();
        agesRefused();
        DUE.end();
    }

    private static void chanceIs(WoodliceSenate x, int c, int hour, long above, long below) {
        DUE.is("chance(" + c + ", " + hour + ", 0)", x.chance(c, hour, 0), above);
        DUE.is("chance(" + c + ", " + hour + ", 1)", x.chance(c, hour, 1), below);
    }

    private static void chanceOfOne() {
        WoodliceSenate x = Told.of("", "gau");
        chanceIs(x, 4, 0, 1, 1);
        chanceIs(new WoodliceSenate(), 4, 0, 0, 1);
        x.event(Told.LIFT, 3, 0);
        chanceIs(x, 4, 2, 1, 1);
        chanceIs(x, 4, 3, 3, 4);
        chanceIs(x, 5, 4, 11, 16);
        chanceIs(x, 5, 5, 1, 1);
        chanceIs(x, 0, 3, 1, 1);
        chanceIs(x, 16, 3, 0, 1);
        DUE.is("count(1)", x.count(1), 1);
        DUE.is("house(3, 2) as told", x.house(3, 2), 0);
    }

    private static void chanceOfTwo() {
        // Two that undo each other: 1 less 2 times 5 times 11 of 256.
        WoodliceSenate x = Told.of("", "gau", Told.PEPPER, 3, 0, Told.PEPPER, 3, 0);
        chanceIs(x, 5, 19, 73, 128);
        chanceIs(x, 16, 19, 1, 1);
        chanceIs(x, 8, 3, 1, 2);
        // One that goes away from the pepper to come, if no lift keeps it there.
        x = Told.of("0123", "gau", Told.LIFT, 0, 0, Told.PEPPER, 1, 0);
        chanceIs(x, 4, 2, 15, 16);
        chanceIs(x, 4, 1, 3, 4);
    }

    private static void chanceOfEight() {
        WoodliceSenate x = Told.of("", "gau");
        WoodliceSenate y = Told.of("", "gau");
        for (int n = 0; n < 8; n++) {
            x.event(Told.LIFT, 3, 0);
            y.event(Told.PEPPER, 3, 0);
        }
        chanceIs(x, 1, 3, 2562890625L, 4294967296L);
        chanceIs(x, 16, 3, 0, 1);
        chanceIs(x, 0, 3, 1, 1);
        chanceIs(y, 1, 3, 22542017, 33554432);
        chanceIs(y, 16, 3, 1, 1);
    }

    private static void chanceRefused() {
        WoodliceSenate x = Told.of("", "gau");
        int[][] bad = {{-1, 0, 0}, {17, 0, 0}, {4, -1, 0}, {4, 20, 0}, {4, 0, -1}, {4, 0, 2}};
        for (int[] c : bad) {
            DUE.is("chance(" + c[0] + ", " + c[1] + ", " + c[2] + ")", x.chance(c[0], c[1], c[2]), BAD);
        }
    }

    private static void agesOfOne() {
        // Of seed 1 the upper bits are 16838, 38526, 10113: a frost in hour 6.
        WoodliceSenate x = Told.of("55555555355", "gku", Told.PEPPER, 0, 10);
        DUE.is("ages(1, 1, 0): what is told does not count", x.ages(1, 1, 0), 20);
        DUE.is("ages(1, 0, 0)", x.ages(1, 0, 0), 20);
        DUE.is("ages(1, 0, 1)", x.ages(1, 0, 1), 0);
        DUE.is("count(1)", x.count(1), 1);
        DUE.is("carried() as told", x.carried(), 0);
        // The seed whose first three upper bits are a lift in some hour is found by trying.
        int found = 0;
        for (int seed = -200; seed < 200; seed++) {
            int[] e = drawn(seed, 1);
            if (e[0] == Told.LIFT) {
                found++;
                int want = e[1] == 19 ? 19 : 18;
                DUE.is("ages(" + seed + ", 1, 0)", x.ages(seed, 1, 0), want);
                DUE.is("ages(" + seed + ", 1, 1)", x.ages(seed, 1, 1), e[1] == 0 || e[1] >= 18 ? 1 : 2);
            }
        }
        DUE.isTrue("some seeds draw a lift", found > 10);
    }

    /** The lots of n events, by whole numbers that do not wrap. */
    private static int[] drawn(int seed, int n) {
        int[] events = new int[3 * n];
        int[] of = {4, 20, 12};
        long s = seed & 0xffffffffL;
        for (int i = 0; i < 3 * n; i++) {
            s = (1103515245L * s + 12345L) % 4294967296L;
            events[i] = (int) ((s >> 16) % of[i % 3]);
        }
        return events;
    }

    private static void agesAsTold() {
        String stone = "314159265358";
        String members = "pau;gbu;ocd;ghu;pju";
        WoodliceSenate x = Told.of(stone, members, Told.PEPPER, 0, 0, Told.LIFT, 5, 0);
        int[] seeds = {0, 1, -1, 7, 2147483647, -2147483648, 123456789, -987654321};
        for (int seed : seeds) {
            for (int n = 0; n <= 8; n++) {
                WoodliceSenate told = Told.of(stone, members, drawn(seed, n));
                DUE.is("ages(" + seed + ", " + n + ", 0)", x.ages(seed, n, 0), told.carried());
                DUE.is("ages(" + seed + ", " + n + ", 1)", x.ages(seed, n, 1), told.governments());
            }
        }
    }

    private static void agesRefused() {
        WoodliceSenate x = Told.of("", "gau");
        DUE.is("ages(1, -1, 0)", x.ages(1, -1, 0), -2);
        DUE.is("ages(1, 9, 0)", x.ages(1, 9, 0), -2);
        DUE.is("ages(1, 1, -1)", x.ages(1, 1, -1), -2);
        DUE.is("ages(1, 1, 2)", x.ages(1, 1, 2), -2);
    }
}
