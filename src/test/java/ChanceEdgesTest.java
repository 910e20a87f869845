import java.util.Arrays;

/** Promises 29 and 30: the edges of chances and ages. The LOTS that are due were worked out apart from the class. */
public final class ChanceEdgesTest {
    private static final Edges EDGES = new Edges();
    private static final int LIFT = Told.LIFT, PEPPER = Told.PEPPER, FROST = Told.FROST;
    private static final int[] BEYOND_HOURS = {-1, 20, Edges.LEAST, Edges.MOST};
    private static final int[] BEYOND_TWO = {-1, 2, Edges.LEAST, Edges.MOST};
    private static final long BAD = -9223372036854775806L;

    private ChanceEdgesTest() {
    }

    public static void main(String[] args) {
        sixteenthsOf0To16();
        hoursOf0To19();
        zeroByOne();
        lowestTerms();
        upToEightEvents();
        aRefusalOfALong();
        agesOf0To8();
        agesByAnySeed();
        theUpperSixteenBits();
        agesInPlaceOfThoseTold();
        agesRefused();
        EDGES.end();
    }

    private static WoodliceSenate some() {
        return Told.of("0123", "gau;pbd;old", PEPPER, 2, 1, LIFT, 3, 0, FROST, 19, 0);
    }

    private static void chanceIs(WoodliceSenate x, int c, int hour, long above, long below) {
        EDGES.row("chance(" + c + ", " + hour + ", 0 and 1)", new long[] {x.chance(c, hour, 0),
            x.chance(c, hour, 1)}, above, below);
    }

    /** "each of EVENTS is by c sixteenths (0 to 16)". */
    private static void sixteenthsOf0To16() {
        WoodliceSenate x = Told.of("", "gau", LIFT, 3, 0);
        int[] above = {1, 15, 7, 13, 3, 11, 5, 9, 1, 7, 3, 5, 1, 3, 1, 1, 0};
        int[] below = {1, 16, 8, 16, 4, 16, 8, 16, 2, 16, 8, 16, 4, 16, 8, 16, 1};
        for (int c = 0; c <= 16; c++) {
            chanceIs(x, c, 3, above[c], below[c]);
        }
        for (int c : new int[] {-1, 17, Edges.LEAST, Edges.MOST}) {
            EDGES.refused("chance(" + c + ", 3, 0)", ChanceEdgesTest::some, y -> y.chance(c, 3, 0), BAD);
        }
    }

    private static void hoursOf0To19() {
        WoodliceSenate x = Told.of("", "gau", LIFT, 0, 0, PEPPER, 19, 0);
        chanceIs(x, 4, 0, 3, 4);
        chanceIs(x, 4, 1, 3, 4);
        chanceIs(x, 4, 2, 1, 1);
        chanceIs(x, 4, 18, 1, 1);
        chanceIs(x, 4, 19, 3, 4);
        for (int hour : BEYOND_HOURS) {
            EDGES.refused("chance(4, " + hour + ", 0)", ChanceEdgesTest::some, y -> y.chance(4, hour, 0), BAD);
        }
        for (int what : BEYOND_TWO) {
            EDGES.refused("chance(4, 3, " + what + ")", ChanceEdgesTest::some, y -> y.chance(4, 3, what), BAD);
        }
    }

    /** "in lowest terms, above and below (0 by 1)". */
    private static void zeroByOne() {
        chanceIs(new WoodliceSenate(), 0, 0, 0, 1);
        chanceIs(new WoodliceSenate(), 16, 19, 0, 1);
        chanceIs(Told.of("", "gad", FROST, 0, 0, FROST, 1, 0, FROST, 2, 0), 5, 19, 0, 1);
        chanceIs(Told.of("", "gau"), 7, 0, 1, 1);
        chanceIs(Told.of("", "gau", FROST, 0, 0, FROST, 1, 0, FROST, 2, 0), 5, 19, 1, 1);
    }

    private static void lowestTerms() {
        // One of two that undo each other: 2 c (16 - c) of 256 it lies.
        WoodliceSenate x = Told.of("", "gau", PEPPER, 3, 0, PEPPER, 3, 0);
        chanceIs(x, 1, 3, 113, 128);
        chanceIs(x, 2, 3, 25, 32);
        chanceIs(x, 4, 3, 5, 8);
        chanceIs(x, 8, 3, 1, 2);
        chanceIs(x, 15, 3, 113, 128);
        chanceIs(x, 16, 3, 1, 1);
    }

    /** Eight events: what is below is more than an int holds. */
    private static void upToEightEvents() {
        WoodliceSenate x = Told.of("", "gad");
        for (int n = 0; n < 8; n++) {
            x.event(LIFT, 0, 0);
        }
        chanceIs(x, 1, 3, 0, 1);
        WoodliceSenate y = Told.of("", "gau");
        for (int n = 0; n < 7; n++) {
            y.event(LIFT, 0, 0);
        }
        chanceIs(y, 1, 1, 170859375L, 268435456L);
        chanceIs(y, 15, 1, 1L, 268435456L);
        y.event(LIFT, 0, 0);
        chanceIs(y, 1, 1, 2562890625L, 4294967296L);
        chanceIs(y, 15, 1, 1L, 4294967296L);
        chanceIs(y, 8, 1, 1L, 256L);
        chanceIs(y, 16, 1, 0L, 1L);
    }

    /** "Where the answer is a long, a refusal -x is the least long and x more." */
    private static void aRefusalOfALong() {
        EDGES.is("chance(-1, 0, 0)", some().chance(-1, 0, 0) - Long.MIN_VALUE, 2);
        EDGES.is("chance(17, 20, 2)", some().chance(17, 20, 2) - Long.MIN_VALUE, 2);
    }

    private static void agesIs(WoodliceSenate x, int seed, int n, int carried, int governments) {
        EDGES.row("ages(" + seed + ", " + n + ", 0 and 1)", new long[] {x.ages(seed, n, 0), x.ages(seed, n, 1)},
                carried, governments);
    }

    /** The same by what is told: the events of a seed, three numbers each. */
    private static void agesAre(int seed, int... events) {
        for (int n = 0; n <= events.length / 3; n++) {
            WoodliceSenate x = Told.of("314159265358", "pau;gbu;ocd;ghu;pju;gcu");
            WoodliceSenate told = Told.of("314159265358", "pau;gbu;ocd;ghu;pju;gcu", Arrays.copyOf(events, 3 * n));
            agesIs(x, seed, n, told.carried(), told.governments());
        }
    }

    /** "n EVENTS (0 to 8)". */
    private static void agesOf0To8() {
        agesAre(0, 0, 16, 0, 1, 18, 3, 1, 9, 10, 2, 9, 4, 3, 18, 3, 3, 8, 9, 0, 1, 8, 3, 5, 11);
        agesAre(1, 2, 6, 9, 3, 19, 7, 2, 7, 8, 2, 9, 11, 0, 8, 5, 3, 17, 11, 1, 14, 10, 2, 15, 3);
        agesAre(7, 0, 6, 8, 2, 11, 1, 2, 10, 5, 1, 13, 3, 2, 2, 1, 2, 5, 2, 2, 8, 8, 3, 19, 2);
        for (int n : new int[] {-1, 9, Edges.LEAST, Edges.MOST}) {
            EDGES.refused("ages(1, " + n + ", 0)", ChanceEdgesTest::some, x -> x.ages(1, n, 0), -2);
        }
    }

    /** "as ints that wrap": a SEED is any int, and none is refused. */
    private static void agesByAnySeed() {
        agesAre(-1, 1, 9, 10, 2, 13, 10, 0, 11, 0, 2, 13, 9, 3, 4, 1, 2, 19, 6, 3, 5, 5, 0, 14, 6);
        agesAre(Edges.MOST, 1, 17, 6, 2, 1, 2, 0, 3, 4, 2, 1, 1, 3, 16, 9, 2, 7, 10, 3, 17, 9, 0, 2, 10);
        agesAre(Edges.LEAST, 0, 8, 4, 1, 6, 7, 1, 1, 2, 2, 1, 0, 3, 6, 11, 3, 16, 1, 0, 9, 0, 3, 13, 7);
    }

    /** "its upper 16 bits as a number from 0 on": of 32768 and more it is no number below 0. */
    private static void theUpperSixteenBits() {
        // Of 0 they are 0, 54236, 42756: a lift in hour 16. Of the least int 32768, 21468, 9988: one in 8.
        agesIs(Told.of("", "gau"), 0, 1, 18, 2);
        agesIs(Told.of("", "old"), 0, 1, 0, 0);
        agesIs(Told.of("", "pau"), Edges.LEAST, 1, 19, 2);
        // Of -1 they are 48697, 4409, 9862: pepper in hour 9 at place 10.
        agesIs(Told.of("", "gku"), -1, 1, 9, 1);
        agesIs(Told.of("", "gju"), -1, 1, 20, 0);
        agesIs(Told.of("", "glu"), -1, 1, 20, 0);
        // Of the greatest int 15929, 37177, 42630: pepper in hour 17 at place 6.
        agesIs(Told.of("", "ggu"), Edges.MOST, 1, 17, 1);
    }

    /** "in place of those told". */
    private static void agesInPlaceOfThoseTold() {
        WoodliceSenate x = Told.of("", "gau", PEPPER, 0, 0, LIFT, 1, 0, LIFT, 3, 0, LIFT, 5, 0, LIFT, 7, 0, LIFT, 9, 0,
                LIFT, 11, 0, LIFT, 13, 0);
        agesIs(x, 0, 0, 20, 0);
        agesIs(x, 0, 1, 18, 2);
        EDGES.row("those told are as they were", new long[] {x.count(1), x.carried(), x.at(13, 0, 2)}, 8, 0, 1);
        agesIs(new WoodliceSenate(), 0, 8, 0, 0);
    }

    private static void agesRefused() {
        for (int what : BEYOND_TWO) {
            EDGES.refused("ages(1, 1, " + what + ")", ChanceEdgesTest::some, x -> x.ages(1, 1, what), -2);
        }
    }
}
