import java.util.function.IntToLongFunction;

/** The hours (TERMS): each sentence that names a boundary, asked on it and just beyond it. */
public final class HourEdgesTest {
    private static final Edges EDGES = new Edges();
    private static final int LIFT = Told.LIFT, PEPPER = Told.PEPPER, FROST = Told.FROST, RAIN = Told.RAIN;

    private HourEdgesTest() {
    }

    public static void main(String[] args) {
        eventsByTheirNumbers();
        aLiftForOneTwoThreeHours();
        aLiftInTheLastHours();
        aLiftWhateverWasAhead();
        pepperAtThatPlace();
        frostZeroAtLeast();
        rainNineAtMost();
        twoStepsOneStep();
        oldOnesOnEvenHours();
        uprightWhenItIsItsTurn();
        notRolledWhenItIsItsTurn();
        moreDampThanWhereItIs();
        ofLikeOnesTheLess();
        theEndsOfTheRow();
        othersThatAreNotRolled();
        theLeastNumberOfThese();
        atEachPlaceItComesTo();
        threeMembersOrMore();
        driedZeroAtLeast();
        moreAyeThanNo();
        nobodySaysAnything();
        EDGES.end();
    }

    private static long[] hours(int least, int most, IntToLongFunction answer) {
        long[] all = new long[most - least + 1];
        for (int hour = least; hour <= most; hour++) {
            all[hour - least] = answer.applyAsLong(hour);
        }
        return all;
    }

    private static void placesFrom0(String call, WoodliceSenate x, int m, long... want) {
        EDGES.row(call, hours(0, want.length - 1, hour -> x.at(hour, m, 0)), want);
    }

    /** "In an HOUR first its EVENTS are done, one by one, by their numbers". */
    private static void eventsByTheirNumbers() {
        WoodliceSenate x = Told.of("019", "", FROST, 7, 0, RAIN, 7, 0);
        EDGES.row("0, 1, 9: a frost, then a rain", new long[] {x.damp(7, 0, 0), x.damp(7, 1, 0), x.damp(7, 2, 0)},
                3, 3, 9);
        WoodliceSenate y = Told.of("019", "", RAIN, 7, 0, FROST, 7, 0);
        EDGES.row("0, 1, 9: a rain, then a frost", new long[] {y.damp(7, 0, 0), y.damp(7, 1, 0), y.damp(7, 2, 0)},
                1, 2, 7);
        WoodliceSenate z = Told.of("0", "", RAIN, 8, 0, FROST, 7, 0);
        EDGES.row("a later hour's told first", hours(6, 9, hour -> z.damp(hour, 0, 0)), 0, 0, 3, 3);
        // Ahead of the members: what the rain makes damp they go to at once.
        placesFrom0("a frost makes 1 and 2 alike", Told.of("12", "gau", FROST, 0, 0), 0, 0, 0);
        placesFrom0("and 2 and 3 not", Told.of("23", "gau", FROST, 0, 0, FROST, 1, 0), 0, 1, 2);
    }

    /** "all are ROLLED from this HOUR on, a pale one for 1 HOUR, a grey one for 2, an old one for 3". */
    private static void aLiftForOneTwoThreeHours() {
        for (int lift = 0; lift < 20; lift++) {
            WoodliceSenate x = Told.of("", "pau;gbd;ocu", LIFT, lift, 0);
            for (int m = 0; m < 3; m++) {
                for (int hour = 0; hour < 20; hour++) {
                    boolean rolled = hour >= lift && hour <= lift + m;
                    EDGES.is("lift in " + lift + ": at(" + hour + ", " + m + ", 2)", x.at(hour, m, 2), rolled ? 1 : 0);
                }
            }
        }
    }

    private static void aLiftInTheLastHours() {
        WoodliceSenate x = Told.of("", "old", LIFT, 19, 0);
        EDGES.row("a lift in the last hour", hours(17, 19, hour -> x.at(hour, 0, 2)), 0, 0, 1);
        EDGES.is("house(19, 1)", x.house(19, 1), 0);
        EDGES.is("house(18, 1)", x.house(18, 1), 1);
    }

    /** "(whatever was ahead of it)": a lift more is counted from its own hour, and adds nothing. */
    private static void aLiftWhateverWasAhead() {
        WoodliceSenate x = Told.of("", "oau;pbu", LIFT, 3, 0, LIFT, 4, 0);
        EDGES.row("an old one, lifted in 3 and 4", hours(2, 8, hour -> x.at(hour, 0, 2)), 0, 1, 1, 1, 1, 0, 0);
        EDGES.row("a pale one, lifted in 3 and 4", hours(2, 6, hour -> x.at(hour, 1, 2)), 0, 1, 1, 0, 0);
        WoodliceSenate y = Told.of("", "oau;pbu", LIFT, 3, 0, LIFT, 3, 0);
        EDGES.row("an old one, lifted twice in 3", hours(2, 7, hour -> y.at(hour, 0, 2)), 0, 1, 1, 1, 0, 0);
        WoodliceSenate z = Told.of("", "oau;pbu", LIFT, 5, 0, LIFT, 3, 0);
        EDGES.row("lifted again in its last rolled hour", hours(2, 9, hour -> z.at(hour, 0, 2)),
                0, 1, 1, 1, 1, 1, 0, 0);
        WoodliceSenate w = Told.of("", "oau;pbu", LIFT, 7, 0, LIFT, 3, 0);
        EDGES.row("lifted again an hour behind it", hours(2, 11, hour -> w.at(hour, 0, 2)),
                0, 1, 1, 1, 0, 1, 1, 1, 0, 0);
    }

    /** "by PEPPER all at that PLACE are the other way up, ROLLED or not". */
    private static void pepperAtThatPlace() {
        WoodliceSenate x = Told.of("", "gau;gbu;gcd;gbd", PEPPER, 4, 1);
        EDGES.row("behind hour 3", new long[] {x.at(3, 0, 1), x.at(3, 1, 1), x.at(3, 2, 1), x.at(3, 3, 1)}, 1, 1, 0, 0);
        EDGES.row("behind hour 4", new long[] {x.at(4, 0, 1), x.at(4, 1, 1), x.at(4, 2, 1), x.at(4, 3, 1)}, 1, 0, 0, 1);
        EDGES.row("behind hour 5", new long[] {x.at(5, 0, 1), x.at(5, 1, 1), x.at(5, 2, 1), x.at(5, 3, 1)}, 1, 0, 0, 1);
        for (int lift = 0; lift < 2; lift++) {
            WoodliceSenate y = Told.of("", "pau;oad", lift == 0 ? LIFT : PEPPER, 4, 0, lift == 0 ? PEPPER : LIFT, 4, 0);
            EDGES.row("rolled, whichever is first", new long[] {y.at(4, 0, 1), y.at(4, 1, 1), y.at(4, 0, 2),
                y.at(4, 1, 2)}, 0, 1, 1, 1);
        }
        WoodliceSenate z = Told.of("", "oau", LIFT, 4, 0, PEPPER, 6, 0, PEPPER, 7, 0);
        EDGES.row("in the last rolled hour, and behind it", hours(5, 8, hour -> z.at(hour, 0, 1)), 1, 0, 1, 1);
        // Where they are ahead of their going counts, not where they came from or go to.
        placesFrom0("pepper where it was an hour ago", Told.of("0123", "gau", PEPPER, 1, 0), 0, 1, 2, 3);
        placesFrom0("pepper where it is", Told.of("0123", "gau", PEPPER, 1, 1), 0, 1, 1, 1);
        placesFrom0("pepper where it goes to", Told.of("0123", "gau", PEPPER, 1, 2), 0, 1, 2, 3);
        EDGES.is("pepper where it goes to", Told.of("0123", "gau", PEPPER, 1, 2).at(1, 0, 1), 1);
    }

    /** "by a FROST each PLACE is less DAMP by 2, 0 at least". */
    private static void frostZeroAtLeast() {
        WoodliceSenate x = Told.of("0123456789", "", FROST, 19, 0);
        for (int p = 0; p < 12; p++) {
            int first = p < 10 ? p : 5;
            EDGES.is("ahead of a frost: damp(18, " + p + ", 0)", x.damp(18, p, 0), first);
            EDGES.is("a frost: damp(19, " + p + ", 0)", x.damp(19, p, 0), first < 2 ? 0 : first - 2);
        }
        EDGES.is("a frost on 0", Told.of("0", "", FROST, 0, 0).damp(0, 0, 0), 0);
        EDGES.is("a frost on 1", Told.of("1", "", FROST, 0, 0).damp(0, 0, 0), 0);
        EDGES.is("a frost on 2", Told.of("2", "", FROST, 0, 0).damp(0, 0, 0), 0);
        EDGES.is("a frost on 3", Told.of("3", "", FROST, 0, 0).damp(0, 0, 0), 1);
        EDGES.is("two frosts on 3", Told.of("3", "", FROST, 0, 0, FROST, 0, 0).damp(0, 0, 0), 0);
        EDGES.is("and a rain: none is owed", Told.of("1", "", FROST, 0, 0, RAIN, 1, 0).damp(1, 0, 0), 3);
    }

    /** "by a RAIN more by 3, 9 at most". */
    private static void rainNineAtMost() {
        WoodliceSenate x = Told.of("0123456789", "", RAIN, 0, 0);
        for (int p = 0; p < 12; p++) {
            int first = p < 10 ? p : 5;
            EDGES.is("a rain: damp(0, " + p + ", 0)", x.damp(0, p, 0), first > 6 ? 9 : first + 3);
        }
        EDGES.is("a rain on 5", Told.of("5", "", RAIN, 0, 0).damp(0, 0, 0), 8);
        EDGES.is("a rain on 6", Told.of("6", "", RAIN, 0, 0).damp(0, 0, 0), 9);
        EDGES.is("a rain on 7", Told.of("7", "", RAIN, 0, 0).damp(0, 0, 0), 9);
        EDGES.is("a rain on 9", Told.of("9", "", RAIN, 0, 0).damp(0, 0, 0), 9);
        EDGES.is("and a frost: none is kept", Told.of("8", "", RAIN, 0, 0, FROST, 1, 0).damp(1, 0, 0), 7);
    }

    /** "a pale one two steps, a grey one one step, an old one one step on even HOURS, none on others". */
    private static void twoStepsOneStep() {
        placesFrom0("pale", Told.of("012345678", "pau"), 0, 2, 4, 6, 8, 8);
        placesFrom0("grey", Told.of("012345678", "gau"), 0, 1, 2, 3, 4, 5, 6, 7, 8, 8);
        placesFrom0("old", Told.of("012345678", "oau"), 0, 1, 1, 2, 2, 3, 3, 4, 4, 5);
        placesFrom0("pale, one place to go", Told.of("010", "pau"), 0, 1, 1);
        placesFrom0("pale, there and no further", Told.of("011", "pau"), 0, 1, 1);
        placesFrom0("pale, and back it goes not", Told.of("898", "pau"), 0, 1, 1);
    }

    private static void oldOnesOnEvenHours() {
        // On its back until the pepper: so the hour it could first go in is told.
        for (int hour = 0; hour < 20; hour++) {
            WoodliceSenate x = Told.of("01", "oad", PEPPER, hour, 0);
            EDGES.is("old, on its feet in " + hour, x.at(hour, 0, 0), hour % 2 == 0 ? 1 : 0);
            WoodliceSenate y = Told.of("01", "gad", PEPPER, hour, 0);
            EDGES.is("grey, on its feet in " + hour, y.at(hour, 0, 0), 1);
        }
    }

    /** "Then MEMBERS go, by numbers, each that is UPRIGHT ... when it is its turn". */
    private static void uprightWhenItIsItsTurn() {
        placesFrom0("on its back", Told.of("012", "gad"), 0, 0, 0);
        // The first comes to the second ahead of its turn: it gets up and goes, or lies and stays.
        WoodliceSenate x = Told.of("0123", "gau;gbd");
        EDGES.row("it gets up", new long[] {x.at(0, 1, 1), x.at(0, 1, 0)}, 1, 2);
        WoodliceSenate y = Told.of("0123", "gau;gbu");
        EDGES.row("it lies", new long[] {y.at(0, 1, 1), y.at(0, 1, 0)}, 0, 1);
        // The second comes to the first behind its turn: it got up too late to go in that hour.
        WoodliceSenate z = Told.of("0123", "gbd;gau");
        EDGES.row("it gets up behind its turn", new long[] {z.at(0, 0, 1), z.at(0, 0, 0), z.at(1, 0, 0)}, 1, 1, 2);
    }

    /** "... and not ROLLED when it is its turn". */
    private static void notRolledWhenItIsItsTurn() {
        placesFrom0("pale, lifted in 1", Told.of("0123456", "pau", LIFT, 1, 0), 0, 2, 2, 4, 6);
        placesFrom0("grey, lifted in 1", Told.of("0123456", "gau", LIFT, 1, 0), 0, 1, 1, 1, 2, 3);
        placesFrom0("old, lifted in 1", Told.of("0123456", "oau", LIFT, 1, 0), 0, 1, 1, 1, 1, 2);
        placesFrom0("old, lifted in 2", Told.of("0123456", "oau", LIFT, 2, 0), 0, 1, 1, 1, 1, 1, 1, 2);
    }

    /** "if it is more DAMP than where it is; else it stays". */
    private static void moreDampThanWhereItIs() {
        placesFrom0("1 more", Told.of("455", "gbu"), 0, 1, 1);
        placesFrom0("less 1 more", Told.of("544", "gbu"), 0, 0, 0);
        placesFrom0("more 1 more", Told.of("445", "gbu"), 0, 2, 2);
        placesFrom0("all alike", Told.of("555", "gbu"), 0, 1, 1);
        placesFrom0("both 1 less", Told.of("454", "gbu"), 0, 1, 1);
        placesFrom0("one alike, one less", Told.of("554", "gbu"), 0, 1, 1);
    }

    /** "to that PLACE beside (1 less, 1 more) that is more DAMP, of like ones the less". */
    private static void ofLikeOnesTheLess() {
        placesFrom0("alike, both more", Told.of("959", "gbu"), 0, 0);
        placesFrom0("the more is more by 1", Told.of("859", "gbu"), 0, 2);
        placesFrom0("the less is more by 1", Told.of("958", "gbu"), 0, 0);
        placesFrom0("the less alone is more", Told.of("950", "gbu"), 0, 0);
        placesFrom0("the more alone is more", Told.of("059", "gbu"), 0, 2);
    }

    /** PLACES are 0 to 11: beside 0 is 1 alone, beside 11 is 10 alone. */
    private static void theEndsOfTheRow() {
        placesFrom0("at 0, 11 is more damp", Told.of("055555555559", "gau"), 0, 1, 1);
        placesFrom0("at 0, 11 alone is more damp", Told.of("500000000009", "pau"), 0, 0, 0);
        placesFrom0("at 11, 0 alone is more damp", Told.of("900000000005", "plu"), 0, 11, 11);
        placesFrom0("at 11, 10 is more damp", Told.of("000000000065", "plu"), 0, 10, 10);
        placesFrom0("at 10, 11 is more damp", Told.of("000000000056", "pku"), 0, 11, 11);
        placesFrom0("at 1, 0 is more damp", Told.of("65", "pbu"), 0, 0, 0);
        // A figure fewer: 11 is one of the later places, and 5.
        placesFrom0("at 10, 11 is 5", Told.of("00000000004", "pku"), 0, 11, 11);
        placesFrom0("at 10, 11 is no more than 5", Told.of("00000000005", "pku"), 0, 10, 10);
    }

    /** "Where it comes to a PLACE with others that are not ROLLED, it passes over". */
    private static void othersThatAreNotRolled() {
        EDGES.is("nobody there", Told.of("01", "gau").at(0, 0, 3), 0);
        WoodliceSenate x = Told.of("01", "gau;gbd");
        EDGES.row("one there", new long[] {x.at(0, 0, 3), x.at(0, 1, 1), x.at(0, 1, 3)}, 1, 1, 0);
        // Pale and lifted in 0 it goes in 1, when the grey one is rolled yet, and the other pale one is not.
        WoodliceSenate y = Told.of("010", "pau;gbd", LIFT, 0, 0);
        EDGES.row("one there, rolled", new long[] {y.at(1, 0, 0), y.at(1, 0, 3), y.at(1, 1, 1)}, 1, 0, 0);
        WoodliceSenate z = Told.of("010", "pau;pbd", LIFT, 0, 0);
        EDGES.row("one there, not rolled any more", new long[] {z.at(1, 0, 0), z.at(1, 0, 3), z.at(1, 1, 1)}, 1, 1, 1);
        // It stays: it comes to no place, and speaks not.
        EDGES.is("two that stay together", Told.of("10", "gau;gau").at(19, 0, 3), 0);
    }

    /** "the one of the least number of these: that is the other way up then, and it was a SPEECH". */
    private static void theLeastNumberOfThese() {
        WoodliceSenate x = Told.of("01", "gau;gbd;gbd");
        EDGES.row("1 and 2 are there", new long[] {x.at(0, 1, 1), x.at(0, 2, 1), x.at(0, 0, 3)}, 1, 0, 1);
        WoodliceSenate y = Told.of("01", "gbd;gbd;gau");
        EDGES.row("0 and 1 are there", new long[] {y.at(0, 0, 1), y.at(0, 1, 1), y.at(0, 2, 3)}, 1, 0, 1);
        WoodliceSenate z = Told.of("01", "gbd;gau;gbd");
        EDGES.row("0 and 2 are there", new long[] {z.at(0, 0, 1), z.at(0, 2, 1), z.at(0, 1, 3)}, 1, 0, 1);
        WoodliceSenate w = Told.of("010", "obd;pau;pbd", LIFT, 0, 0);
        EDGES.row("0 is rolled, 2 is not", new long[] {w.at(1, 0, 1), w.at(1, 2, 1), w.at(1, 1, 3)}, 0, 1, 1);
        WoodliceSenate eight = Told.of("01", "gbd;gbd;gbd;gbd;gbd;gbd;gbd;gau");
        EDGES.row("the eighth passes over the first", new long[] {eight.at(0, 0, 1), eight.at(0, 6, 1),
            eight.at(0, 7, 3)}, 1, 0, 1);
    }

    /** A pale one comes to two places in an hour, and makes a speech at each; at one where it stays, one. */
    private static void atEachPlaceItComesTo() {
        WoodliceSenate x = Told.of("012", "pau;gbd;gcd");
        EDGES.row("two speeches", new long[] {x.at(0, 0, 0), x.at(0, 0, 3), x.at(0, 1, 3), x.at(0, 1, 0)}, 2, 2, 1, 2);
        // The second got up and goes, too: it passes over the first.
        EDGES.row("which way up then", new long[] {x.at(0, 0, 1), x.at(0, 1, 1), x.at(0, 2, 1)}, 0, 1, 1);
        WoodliceSenate y = Told.of("010", "pau;gbd");
        EDGES.row("one speech: it stays there", new long[] {y.at(0, 0, 0), y.at(0, 0, 3), y.at(0, 1, 1)}, 1, 1, 1);
    }

    /** "Then each PLACE at which three MEMBERS or more are is less DAMP by 1". */
    private static void threeMembersOrMore() {
        String more = "gad;gad;gad;gad;gad;gad;gad;gad";
        for (int n = 1; n <= 8; n++) {
            WoodliceSenate x = Told.of("9", more.substring(0, 4 * n - 1));
            EDGES.is(n + " members: damp(0, 0, 0)", x.damp(0, 0, 0), n < 3 ? 9 : 8);
            EDGES.is(n + " members: damp(1, 0, 0)", x.damp(1, 0, 0), n < 3 ? 9 : 7);
            EDGES.is(n + " members: damp(1, 1, 0)", x.damp(1, 1, 0), 5);
            EDGES.is(n + " members: damp(1, 0, 1)", x.damp(1, 0, 1), n);
        }
        WoodliceSenate two = Told.of("999", "gad;gad;gad;gcd;gcd;gcd;gbd;gbd");
        EDGES.row("two such places", new long[] {two.damp(0, 0, 0), two.damp(0, 1, 0), two.damp(0, 2, 0)}, 8, 9, 8);
        WoodliceSenate ends = Told.of("999999999999", "gad;gad;gad;gld;gld;gld");
        EDGES.row("at the ends", new long[] {ends.damp(0, 0, 0), ends.damp(0, 1, 0), ends.damp(0, 10, 0),
            ends.damp(0, 11, 0)}, 8, 9, 9, 8);
        WoodliceSenate rolled = Told.of("9", "gad;gau;oad", LIFT, 0, 0);
        EDGES.is("rolled ones are there, too", rolled.damp(0, 0, 0), 8);
        // They are counted behind their going: the third comes in hour 0, or goes in hour 0.
        WoodliceSenate comes = Told.of("98", "gad;gad;gbu");
        EDGES.row("the third comes", new long[] {comes.at(0, 2, 0), comes.damp(0, 0, 0)}, 0, 8);
        WoodliceSenate goes = Told.of("89", "gad;gad;gau");
        EDGES.row("the third goes", new long[] {goes.at(0, 2, 0), goes.damp(0, 0, 0)}, 1, 8);
    }

    /** "... 0 at least". */
    private static void driedZeroAtLeast() {
        WoodliceSenate x = Told.of("2", "gad;gad;gad");
        EDGES.row("three at a place", hours(0, 3, hour -> x.damp(hour, 0, 0)), 1, 0, 0, 0);
        EDGES.is("a rain behind it: none is owed", Told.of("0", "gad;gad;gad", RAIN, 5, 0).damp(5, 0, 0), 2);
    }

    private static void votes(String members, int ayes, int noes, int carried) {
        WoodliceSenate x = Told.of("", members);
        EDGES.row(members + ": house(19, 0 to 2)", new long[] {x.house(19, 0), x.house(19, 1), x.house(19, 2)},
                ayes, noes, carried);
    }

    /** "its MOTION is CARRIED, if more say aye than no". */
    private static void moreAyeThanNo() {
        votes("gau", 1, 0, 1);
        votes("gad", 0, 1, 0);
        votes("gau;gcd", 1, 1, 0);
        votes("gau;gcd;geu", 2, 1, 1);
        votes("gau;gcd;ged", 1, 2, 0);
        votes("gau;gcd;geu;ggd;giu;gkd;gbu;gdd", 4, 4, 0);
        votes("gau;gcu;geu;ggd;giu;gkd;gbu;gdd", 5, 3, 1);
    }

    /** None says anything where there is none, or where all are ROLLED: 0 is not more than 0. */
    private static void nobodySaysAnything() {
        votes("", 0, 0, 0);
        WoodliceSenate x = Told.of("", "gau;gbu;gcd", LIFT, 5, 0);
        EDGES.row("ayes", hours(4, 7, hour -> x.house(hour, 0)), 2, 0, 0, 2);
        EDGES.row("noes", hours(4, 7, hour -> x.house(hour, 1)), 1, 0, 0, 1);
        EDGES.row("carried", hours(4, 7, hour -> x.house(hour, 2)), 1, 0, 0, 1);
    }
}
