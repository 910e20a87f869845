/** Promises 19 to 22: each sentence that names a boundary of the plans, asked on it and just beyond it. */
public final class PlanEdgesTest {
    private static final Edges EDGES = new Edges();
    private static final int LIFT = Told.LIFT, PEPPER = Told.PEPPER, FROST = Told.FROST, RAIN = Told.RAIN;
    private static final int[] BEYOND_TWO = {-1, 2, Edges.LEAST, Edges.MOST};

    private PlanEdgesTest() {
    }

    public static void main(String[] args) {
        seatFromFirstToLast();
        seatOfLikeOnesTheLeast();
        seatOfAMemberThatThereIs();
        dustFromFirstToLast();
        dustOfLikeOnesTheLeast();
        dustWhateverRoom();
        dustRefused();
        boyFromFirstToLast();
        boyOfLikeOnesTheLeast();
        boyWhateverRoom();
        boyRefused();
        calmOfNone();
        calmOfOne();
        calmOfTwo();
        calmNever();
        calmRefused();
        EDGES.end();
    }

    private static WoodliceSenate some() {
        return Told.of("0123", "gau;pbd;old", PEPPER, 2, 1, LIFT, 3, 0, FROST, 19, 0);
    }

    private static void seatIs(String call, WoodliceSenate x, int m, int which, int most) {
        EDGES.row(call + ": seat(" + m + ", 0 and 1)", new long[] {x.seat(m, 0), x.seat(m, 1)}, which, most);
    }

    /** "the PLACE as told, in place of its own, by which most MOTIONS are CARRIED": 0 to 11, 0 to 20. */
    private static void seatFromFirstToLast() {
        for (int p = 0; p < 12; p++) {
            seatIs("on its feet at " + p + " alone", Told.of("", "gfd", PEPPER, 0, p), 0, p, 20);
            seatIs("on its feet at " + p + " alone, late", Told.of("", "gfd", PEPPER, 19, p), 0, p, 1);
        }
        seatIs("all but 0 are peppered", Told.of("", "gau", PEPPER, 0, 1), 0, 0, 20);
        seatIs("0 is peppered", Told.of("", "gau", PEPPER, 0, 0), 0, 1, 20);
        WoodliceSenate x = Told.of("", "gfd", PEPPER, 0, 11);
        x.seat(0, 0);
        EDGES.row("it has its own place yet", new long[] {x.member(0, 1), x.at(0, 0, 0), x.carried()}, 5, 5, 0);
    }

    /** "of like ones the least". */
    private static void seatOfLikeOnesTheLeast() {
        seatIs("all alike, all carried", Told.of("", "glu"), 0, 0, 20);
        seatIs("all alike, none carried", Told.of("", "gld"), 0, 0, 0);
        seatIs("3 and 8 alike", Told.of("", "gld", PEPPER, 4, 8, PEPPER, 4, 3), 0, 3, 16);
        seatIs("8 is more by 1", Told.of("", "gld", PEPPER, 4, 8, PEPPER, 5, 3), 0, 8, 16);
    }

    private static void seatOfAMemberThatThereIs() {
        seatIs("the eighth", Told.of("", "gau;gbd;gcu;gdd;geu;gfd;ggu;ghd", PEPPER, 0, 11), 7, 11, 20);
        EDGES.refused("seat(3, 0) of three", PlanEdgesTest::some, x -> x.seat(3, 0), -2);
        EDGES.refused("seat(8, 0) of eight", () -> Told.of("", "gau;gbd;gcu;gdd;geu;gfd;ggu;ghd"),
                x -> x.seat(8, 0), -2);
        EDGES.refused("seat(0, 0) of nobody", WoodliceSenate::new, x -> x.seat(0, 0), -2);
        for (int m : new int[] {-1, Edges.LEAST, Edges.MOST}) {
            EDGES.refused("seat(" + m + ", 1)", PlanEdgesTest::some, x -> x.seat(m, 1), -2);
        }
        for (int what : BEYOND_TWO) {
            EDGES.refused("seat(0, " + what + ")", PlanEdgesTest::some, x -> x.seat(0, what), -2);
        }
    }

    private static void dustIs(String call, WoodliceSenate x, int hour, int which, int most) {
        EDGES.row(call + ": dust(" + hour + ", 0 and 1)", new long[] {x.dust(hour, 0), x.dust(hour, 1)}, which, most);
    }

    /** "the PLACE for PEPPER more, ... by which most MOTIONS are CARRIED": hours 0 to 19, places 0 to 11. */
    private static void dustFromFirstToLast() {
        for (int hour = 0; hour < 20; hour++) {
            dustIs("on its back at 0", Told.of("", "gad"), hour, 0, 20 - hour);
            dustIs("on its back at 11", Told.of("", "gld"), hour, 11, 20 - hour);
            dustIs("on its feet at 0", Told.of("", "gau"), hour, 1, 20);
        }
        WoodliceSenate x = Told.of("", "gld");
        x.dust(0, 0);
        EDGES.row("none is told", new long[] {x.count(1), x.carried()}, 0, 0);
    }

    private static void dustOfLikeOnesTheLeast() {
        dustIs("nobody", new WoodliceSenate(), 0, 0, 0);
        dustIs("4 and 7 alike", Told.of("", "gau;gcu;ged;ghd"), 0, 4, 20);
        dustIs("nowhere enough", Told.of("", "gad;gcd"), 19, 0, 0);
    }

    /** "(whatever room)": a ninth, too. */
    private static void dustWhateverRoom() {
        WoodliceSenate x = Told.of("", "gld", RAIN, 0, 0, RAIN, 1, 0, RAIN, 2, 0, RAIN, 3, 0, RAIN, 4, 0, RAIN, 5, 0,
                RAIN, 6, 0);
        dustIs("seven told", x, 7, 11, 13);
        x.event(RAIN, 7, 0);
        dustIs("eight told", x, 7, 11, 13);
        EDGES.row("there are eight", new long[] {x.count(1), x.event(0, 0, 0), x.back()}, 8, -4, 7);
    }

    private static void dustRefused() {
        for (int hour : new int[] {-1, 20, Edges.LEAST, Edges.MOST}) {
            EDGES.refused("dust(" + hour + ", 0)", PlanEdgesTest::some, x -> x.dust(hour, 0), -2);
        }
        for (int what : BEYOND_TWO) {
            EDGES.refused("dust(0, " + what + ")", PlanEdgesTest::some, x -> x.dust(0, what), -2);
        }
    }

    private static void boyIs(String call, WoodliceSenate x, int which, int most) {
        EDGES.row(call + ": boy(0 and 1)", new long[] {x.boy(0), x.boy(1)}, which, most);
    }

    /** "the HOUR for a LIFT more, ... by which there are most GOVERNMENTS": 0 to 19, 0 to 19. */
    private static void boyFromFirstToLast() {
        // On its feet from 18 on: lifted in 19 it falls again, lifted earlier it does not.
        boyIs("in the last hour", Told.of("", "gad", PEPPER, 18, 0), 19, 2);
        // On its feet in 0 alone: a lift in 0 takes that away, so 1 is as good as none.
        boyIs("in no hour better", Told.of("", "gau", PEPPER, 1, 0), 1, 1);
        // Aye and no are alike, but the pale one is the first to unroll: that falls behind the first hour.
        boyIs("in hour 0", Told.of("", "pau;gbd"), 0, 2);
        WoodliceSenate all = Told.of("", "gld;ojd;gju;gju;plu;oju", LIFT, 19, 0, RAIN, 11, 0);
        EDGES.is("governments() in all hours", all.governments(), 19);
        boyIs("governments in all hours", all, 1, 19);
        all.event(LIFT, 0, 0);
        EDGES.is("a lift in 0 makes them fewer", all.governments() < 19 ? 1 : 0, 1);
        all.back();
        all.event(LIFT, 1, 0);
        EDGES.is("a lift in 1 does not", all.governments(), 19);
    }

    private static void boyOfLikeOnesTheLeast() {
        boyIs("nobody", new WoodliceSenate(), 0, 0);
        boyIs("on its back", Told.of("", "gad"), 0, 0);
        boyIs("on its feet: in 0 it is one, in 1 two", Told.of("", "gau"), 1, 2);
        boyIs("lifted in 1 it is rolled to 2", Told.of("", "gau", LIFT, 1, 0), 4, 4);
        boyIs("pale, lifted in 1", Told.of("", "pau", LIFT, 1, 0), 3, 4);
    }

    /** Behind eight, too. */
    private static void boyWhateverRoom() {
        WoodliceSenate x = Told.of("", "gau", RAIN, 0, 0, RAIN, 1, 0, RAIN, 2, 0, RAIN, 3, 0, RAIN, 4, 0, RAIN, 5, 0,
                RAIN, 6, 0);
        boyIs("seven told", x, 1, 2);
        x.event(RAIN, 7, 0);
        boyIs("eight told", x, 1, 2);
        EDGES.row("there are eight", new long[] {x.count(1), x.governments(), x.event(0, 0, 0)}, 8, 0, -4);
    }

    private static void boyRefused() {
        for (int what : BEYOND_TWO) {
            EDGES.refused("boy(" + what + ")", PlanEdgesTest::some, x -> x.boy(what), -2);
        }
    }

    private static void calmIs(String call, WoodliceSenate x, int size, int first, int second) {
        EDGES.row(call + ": calm(-1 to 1)", new long[] {x.calm(-1), x.calm(0), x.calm(1)}, size, first, second);
    }

    /** "the fewest EVENTS (0 to 2) that had better not be, so that all MOTIONS are CARRIED". */
    private static void calmOfNone() {
        calmIs("all are carried", Told.of("", "gau"), 0, -1, -1);
        calmIs("all are carried, frost or not", Told.of("", "gau", FROST, 3, 0), 0, -1, -1);
        calmIs("two that undo each other", Told.of("", "gau", PEPPER, 3, 0, PEPPER, 3, 0), 0, -1, -1);
    }

    /** "of like ones the least row". */
    private static void calmOfOne() {
        calmIs("the first of one", Told.of("", "gau", LIFT, 19, 0), 1, 0, -1);
        calmIs("the eighth of eight", Told.of("", "gau", RAIN, 0, 0, RAIN, 1, 0, RAIN, 2, 0, RAIN, 3, 0, RAIN, 4, 0,
                RAIN, 5, 0, RAIN, 6, 0, LIFT, 0, 0), 1, 7, -1);
        calmIs("any of three", Told.of("", "gau", PEPPER, 2, 0, PEPPER, 2, 0, PEPPER, 2, 0), 1, 0, -1);
        calmIs("the second or the third", Told.of("", "gau", RAIN, 2, 0, PEPPER, 2, 0, PEPPER, 2, 0, PEPPER, 2, 0),
                1, 1, -1);
        // All of pepper in 2 could be left out by twos, but the lift alone is fewer.
        calmIs("one, not two", Told.of("", "gau", PEPPER, 2, 0, PEPPER, 2, 0, LIFT, 5, 0), 1, 2, -1);
    }

    /** "(each more than the one ahead)". */
    private static void calmOfTwo() {
        calmIs("both of two", Told.of("", "gau", LIFT, 0, 0, LIFT, 19, 0), 2, 0, 1);
        calmIs("the last of eight", Told.of("", "gau", RAIN, 0, 0, RAIN, 1, 0, RAIN, 2, 0, RAIN, 3, 0, RAIN, 4, 0,
                RAIN, 5, 0, LIFT, 6, 0, LIFT, 0, 0), 2, 6, 7);
        calmIs("the first and the last", Told.of("", "gau", LIFT, 0, 0, RAIN, 1, 0, RAIN, 2, 0, RAIN, 3, 0, RAIN, 4,
                0, RAIN, 5, 0, RAIN, 6, 0, LIFT, 0, 0), 2, 0, 7);
        // Either pepper of hour 2, and the lift: 0 and 3 are less than 1 and 3.
        calmIs("the least of like rows", Told.of("", "gau", PEPPER, 2, 0, PEPPER, 2, 0, PEPPER, 2, 0, LIFT, 5, 0),
                2, 0, 3);
    }

    /** "NONE": three are too many, and where it would not help. */
    private static void calmNever() {
        calmIs("three", Told.of("", "gau", LIFT, 0, 0, LIFT, 5, 0, LIFT, 9, 0), -1, -1, -1);
        calmIs("on its back", Told.of("", "gad", LIFT, 0, 0), -1, -1, -1);
        calmIs("on its back, no events", Told.of("", "gad"), -1, -1, -1);
        calmIs("nobody", new WoodliceSenate(), -1, -1, -1);
        calmIs("five", Told.of("", "gau", LIFT, 19, 0, PEPPER, 19, 0, PEPPER, 19, 0, PEPPER, 18, 0,
                PEPPER, 17, 0, LIFT, 16, 0), -1, -1, -1);
    }

    /** "the i-th (0, 1; NONE)": BAD of others. */
    private static void calmRefused() {
        for (int i : new int[] {-2, 2, Edges.LEAST, Edges.MOST}) {
            EDGES.refused("calm(" + i + ")", PlanEdgesTest::some, x -> x.calm(i), -2);
            EDGES.refused("calm(" + i + ") of nobody", WoodliceSenate::new, x -> x.calm(i), -2);
        }
    }
}
