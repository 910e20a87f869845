/** Promises 11 to 18: what may be asked of the hours, and what is answered at the edges of it. */
public final class AnswerEdgesTest {
    private static final Edges EDGES = new Edges();
    private static final int LIFT = Told.LIFT, PEPPER = Told.PEPPER, FROST = Told.FROST;
    private static final int[] BEYOND_HOURS = {-1, 20, Edges.LEAST, Edges.MOST};

    private AnswerEdgesTest() {
    }

    public static void main(String[] args) {
        damp();
        at();
        atOfEight();
        speechesUpToIt();
        house();
        governmentsFrom1On();
        carriedInAll();
        crowdBehindTheFirstHour();
        crowdAtTheFirstPlace();
        crowdOfNobody();
        oratorOfLikeOnesTheLeast();
        oratorOfNobody();
        stillAsBits();
        stillOfOneThatCameBack();
        EDGES.end();
    }

    private static WoodliceSenate some() {
        return Told.of("0123", "gau;pbd;old", PEPPER, 2, 1, LIFT, 3, 0, FROST, 19, 0);
    }

    /** "damp(hour, place, what)": hours 0 to 19, places 0 to 11, what 0 and 1. */
    private static void damp() {
        WoodliceSenate x = some();
        EDGES.row("damp at the edges", new long[] {x.damp(0, 0, 0), x.damp(0, 11, 0), x.damp(19, 0, 0),
            x.damp(19, 3, 0), x.damp(19, 11, 0), x.damp(0, 11, 1), x.damp(19, 11, 1), x.damp(19, 0, 1)},
                0, 5, 0, 1, 3, 1, 1, 0);
        for (int hour : BEYOND_HOURS) {
            EDGES.refused("damp(" + hour + ", 0, 0)", AnswerEdgesTest::some, y -> y.damp(hour, 0, 0), -2);
        }
        for (int place : new int[] {-1, 12, Edges.LEAST, Edges.MOST}) {
            EDGES.refused("damp(0, " + place + ", 0)", AnswerEdgesTest::some, y -> y.damp(0, place, 0), -2);
        }
        for (int what : new int[] {-1, 2, Edges.LEAST, Edges.MOST}) {
            EDGES.refused("damp(0, 0, " + what + ")", AnswerEdgesTest::some, y -> y.damp(0, 0, what), -2);
        }
    }

    /** "at(hour, member, what)": what 0 to 3, a member that there is. */
    private static void at() {
        WoodliceSenate x = some();
        EDGES.row("at(0, 2, 0 to 3)", new long[] {x.at(0, 2, 0), x.at(0, 2, 1), x.at(0, 2, 2), x.at(0, 2, 3)},
                11, 0, 0, 0);
        EDGES.is("at(19, 2, 0)", x.at(19, 2, 0), 11);
        EDGES.is("at(3, 2, 2)", x.at(3, 2, 2), 1);
        for (int hour : BEYOND_HOURS) {
            EDGES.refused("at(" + hour + ", 0, 0)", AnswerEdgesTest::some, y -> y.at(hour, 0, 0), -2);
        }
        for (int m : new int[] {-1, 3, Edges.LEAST, Edges.MOST}) {
            EDGES.refused("at(0, " + m + ", 0) of three", AnswerEdgesTest::some, y -> y.at(0, m, 0), -2);
        }
        for (int what : new int[] {-1, 4, Edges.LEAST, Edges.MOST}) {
            EDGES.refused("at(0, 0, " + what + ")", AnswerEdgesTest::some, y -> y.at(0, 0, what), -2);
        }
    }

    private static void atOfEight() {
        WoodliceSenate x = Told.of("", "gad;gad;gad;gad;gad;gad;gad;gld");
        EDGES.row("the eighth", new long[] {x.at(19, 7, 0), x.at(19, 7, 1), x.at(19, 7, 2), x.at(19, 7, 3)},
                11, 0, 0, 0);
        EDGES.is("at(19, 8, 0)", x.at(19, 8, 0), -2);
        EDGES.is("at(0, 0, 0) of none", new WoodliceSenate().at(0, 0, 0), -2);
        // A member fewer: it is not answered as it was.
        x.wipe(1);
        Told.typeAll(x, 1, "gau");
        EDGES.is("at(19, 1, 0) of one", x.at(19, 1, 0), -2);
        EDGES.is("damp(19, 11, 1) of one", x.damp(19, 11, 1), 0);
    }

    /** "how many SPEECHES it made up to it": behind the hour, that of the hour with them. */
    private static void speechesUpToIt() {
        WoodliceSenate x = Told.of("098", "gad;gbd;gcd", PEPPER, 5, 2, PEPPER, 7, 0);
        EDGES.row("the third speaks in 5", new long[] {x.at(4, 2, 3), x.at(5, 2, 3), x.at(8, 2, 3)}, 0, 1, 1);
        EDGES.row("the first speaks in 7", new long[] {x.at(6, 0, 3), x.at(7, 0, 3), x.at(7, 1, 3)}, 0, 1, 0);
    }

    /** "house(hour, what)": what 0 to 2. */
    private static void house() {
        WoodliceSenate x = Told.of("", "gau;pbd", LIFT, 19, 0);
        EDGES.row("house of 18, of 19", new long[] {x.house(18, 0), x.house(18, 1), x.house(18, 2), x.house(19, 0),
            x.house(19, 1), x.house(19, 2), x.house(0, 0)}, 1, 1, 0, 0, 0, 0, 1);
        for (int hour : BEYOND_HOURS) {
            EDGES.refused("house(" + hour + ", 0)", AnswerEdgesTest::some, y -> y.house(hour, 0), -2);
        }
        for (int what : new int[] {-1, 3, Edges.LEAST, Edges.MOST}) {
            EDGES.refused("house(0, " + what + ")", AnswerEdgesTest::some, y -> y.house(0, what), -2);
        }
    }

    /** "GOVERNMENTS: in how many HOURS (1 on) the MOTION is CARRIED, and was not in the HOUR ahead, or ...". */
    private static void governmentsFrom1On() {
        EDGES.is("carried from 0 on", Told.of("", "gau").governments(), 0);
        EDGES.is("not carried from 0 on", Told.of("", "gad").governments(), 0);
        EDGES.is("the other way up in 0", Told.of("", "gau", PEPPER, 0, 0).governments(), 0);
        EDGES.is("the other way up in 1", Told.of("", "gau", PEPPER, 1, 0).governments(), 1);
        EDGES.is("on its feet in 1", Told.of("", "gad", PEPPER, 1, 0).governments(), 1);
        EDGES.is("the other way up in 19", Told.of("", "gau", PEPPER, 19, 0).governments(), 1);
        EDGES.is("in 18 and 19", Told.of("", "gau", PEPPER, 18, 0, PEPPER, 19, 0).governments(), 2);
        EDGES.is("in 0 and 1", Told.of("", "gau", PEPPER, 0, 0, PEPPER, 1, 0).governments(), 1);
        EDGES.is("twice in 1", Told.of("", "gau", PEPPER, 1, 0, PEPPER, 1, 0).governments(), 0);
        WoodliceSenate x = Told.of("", "gau", PEPPER, 1, 0, PEPPER, 2, 0, PEPPER, 3, 0, PEPPER, 4, 0, PEPPER, 5, 0,
                PEPPER, 6, 0, PEPPER, 7, 0, PEPPER, 8, 0);
        EDGES.is("in eight hours", x.governments(), 8);
        EDGES.is("of nobody", new WoodliceSenate().governments(), 0);
    }

    /** "CARRIED in all": none to twenty. */
    private static void carriedInAll() {
        EDGES.is("nobody", new WoodliceSenate().carried(), 0);
        EDGES.is("on its back", Told.of("", "gad").carried(), 0);
        EDGES.is("on its back but in 19", Told.of("", "gad", PEPPER, 19, 0).carried(), 1);
        EDGES.is("upright but in 19", Told.of("", "gau", PEPPER, 19, 0).carried(), 19);
        EDGES.is("upright but in 0", Told.of("", "pau", LIFT, 0, 0).carried(), 19);
        EDGES.is("upright", Told.of("", "gau").carried(), 20);
    }

    private static void crowdIs(String call, WoodliceSenate x, int hour, int place, int most) {
        EDGES.row(call + ": crowd(0 to 2)", new long[] {x.crowd(0), x.crowd(1), x.crowd(2)}, hour, place, most);
    }

    /** "the HOUR behind which most are at one PLACE, of like ones the least". */
    private static void crowdBehindTheFirstHour() {
        crowdIs("one", Told.of("", "gad"), 0, 0, 1);
        crowdIs("two apart", Told.of("", "gad;gcd"), 0, 0, 1);
        crowdIs("a second comes in 19", Told.of("09", "gad;gbd", PEPPER, 19, 0), 19, 1, 2);
        crowdIs("a second comes in 18", Told.of("09", "gad;gbd", PEPPER, 18, 0), 18, 1, 2);
        crowdIs("a second comes in 0", Told.of("09", "gad;gbd", PEPPER, 0, 0), 0, 1, 2);
        // Two at place 4 from the first, two at place 1 later on: of like ones the least hour.
        crowdIs("two later on, too", Told.of("09555", "gad;gbd;ged;ged", PEPPER, 7, 0), 0, 4, 2);
        crowdIs("three later on", Told.of("09555", "gad;gbd;gbd;ged;ged", PEPPER, 7, 0), 7, 1, 3);
    }

    /** "the least such PLACE". */
    private static void crowdAtTheFirstPlace() {
        crowdIs("at 0 and at 11", Told.of("", "gld;gad"), 0, 0, 1);
        crowdIs("at 11 alone", Told.of("", "gld"), 0, 11, 1);
        crowdIs("two at 11 and at 3", Told.of("", "gld;gdd;gld;gdd;gad"), 0, 3, 2);
        crowdIs("eight at 11", Told.of("", "gld;gld;gld;gld;gld;gld;gld;gld"), 0, 11, 8);
    }

    /** "NONE: nobody is at any PLACE"; "BAD" ahead of it. */
    private static void crowdOfNobody() {
        crowdIs("nobody", new WoodliceSenate(), -1, -1, -1);
        crowdIs("a fault", Told.of("", "gad;"), -1, -1, -1);
        for (int what : new int[] {-1, 3, Edges.LEAST, Edges.MOST}) {
            EDGES.refused("crowd(" + what + ")", AnswerEdgesTest::some, x -> x.crowd(what), -2);
            EDGES.refused("crowd(" + what + ") of nobody", WoodliceSenate::new, x -> x.crowd(what), -2);
        }
    }

    /** "ORATOR: who made most SPEECHES (be it none), of like ones the least". */
    private static void oratorOfLikeOnesTheLeast() {
        EDGES.is("one, and no speech", Told.of("", "gad").orator(), 0);
        EDGES.is("eight, and no speech", Told.of("", "gad;gad;gad;gad;gad;gad;gad;gad").orator(), 0);
        EDGES.is("the eighth alone", Told.of("09", "gbd;gcd;gdd;ged;gfd;ggd;ghd;gau").orator(), 7);
        EDGES.is("one speech in the last hour", Told.of("09", "gbd;gbd;gad", PEPPER, 19, 0).orator(), 2);
        // Each of two passes over one: the first of them; the second of them passes over one more.
        EDGES.is("of like ones the least", Told.of("095559", "gbd;gau;geu;gfd").orator(), 1);
        EDGES.is("one more", Told.of("0955589", "gbd;gau;peu;gfd;ggd").orator(), 2);
    }

    /** "NONE: there are no MEMBERS". */
    private static void oratorOfNobody() {
        EDGES.is("orator() of nobody", new WoodliceSenate().orator(), -1);
        EDGES.is("orator() with a fault", Told.of("", "ga").orator(), -1);
    }

    /** "STILL: MEMBERS that never made a step to another PLACE, as bits." */
    private static void stillAsBits() {
        EDGES.is("nobody", new WoodliceSenate().still(), 0);
        EDGES.is("one", Told.of("", "gau").still(), 1);
        EDGES.is("one that goes", Told.of("01", "gau").still(), 0);
        EDGES.is("eight", Told.of("", "gad;gad;gad;gad;gad;gad;gad;gad").still(), 255);
        EDGES.is("eight, the eighth goes", Told.of("09", "gcd;gdd;ged;gfd;ggd;ghd;gid;gau").still(), 127);
        EDGES.is("eight, the first goes", Told.of("09", "gau;gcd;gdd;ged;gfd;ggd;ghd;gid").still(), 254);
        EDGES.is("it goes in 19", Told.of("09", "gad;gcd", PEPPER, 19, 0).still(), 2);
    }

    /** In hour 0 it goes to place 1, in hour 2, when three have dried that up, it comes back. */
    private static void stillOfOneThatCameBack() {
        WoodliceSenate x = Told.of("56", "gau;gbd;gbd");
        EDGES.row("there and back", new long[] {x.at(0, 0, 0), x.at(1, 0, 0), x.at(2, 0, 0)}, 1, 1, 0);
        EDGES.is("still()", x.still(), 4);
    }
}
