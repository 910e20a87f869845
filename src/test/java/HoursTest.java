/** Promises 11 to 18: what stands behind each hour. The answers that are due were gone through by hand. */
public final class HoursTest {
    private static final Due DUE = new Due();

    private HoursTest() {
    }

    public static void main(String[] args) {
        steps();
        stepsToLikePlaces();
        lifts();
        pepper();
        frostAndRain();
        speeches();
        speechesPassRolledOnesBy();
        crowdedPlacesDry();
        divisions();
        crowd();
        oratorAndStill();
        refusals();
        DUE.end();
    }

    private static void places(WoodliceSenate x, int member, int... want) {
        for (int hour = 0; hour < want.length; hour++) {
            DUE.is("at(" + hour + ", " + member + ", 0)", x.at(hour, member, 0), want[hour]);
        }
    }

    private static void steps() {
        places(Told.of("0123", "pau"), 0, 2, 4, 4, 4);
        places(Told.of("0123", "gau"), 0, 1, 2, 3, 4, 4);
        places(Told.of("0123", "oau"), 0, 1, 1, 2, 2, 3, 3, 4, 4);
        places(Told.of("0123", "pad"), 0, 0, 0, 0);
        places(Told.of("001", "pau"), 0, 0, 0, 0);
        places(Told.of("010", "pau"), 0, 1, 1);
        places(Told.of("555555555550", "glu"), 0, 10, 10);
        places(Told.of("555555555509", "gku"), 0, 11, 11);
        places(Told.of("955555555550", "glu"), 0, 10, 10);
        places(Told.of("055555555555", "gau"), 0, 1, 1);
    }

    private static void stepsToLikePlaces() {
        places(Told.of("959", "gbu"), 0, 0, 0);
        places(Told.of("859", "gbu"), 0, 2, 2);
        places(Told.of("555", "gbu"), 0, 1, 1);
        places(Told.of("545", "gbu"), 0, 0, 0);
    }

    private static void lifts() {
        WoodliceSenate x = Told.of("", "pau;gbu;ocu", Told.LIFT, 2, 0);
        int[][] rolled = {{0, 0, 1, 0, 0, 0}, {0, 0, 1, 1, 0, 0}, {0, 0, 1, 1, 1, 0}};
        int[] ayes = {3, 3, 0, 1, 2, 3};
        for (int hour = 0; hour < 6; hour++) {
            for (int m = 0; m < 3; m++) {
                DUE.is("at(" + hour + ", " + m + ", 2)", x.at(hour, m, 2), rolled[m][hour]);
            }
            DUE.is("house(" + hour + ", 0)", x.house(hour, 0), ayes[hour]);
        }
        x.event(Told.LIFT, 3, 0);
        int[] again = {0, 0, 1, 1, 1, 1, 0};
        for (int hour = 0; hour < 7; hour++) {
            DUE.is("lifted again: at(" + hour + ", 2, 2)", x.at(hour, 2, 2), again[hour]);
        }
        // None goes while it is rolled.
        places(Told.of("0123", "gau", Told.LIFT, 1, 0), 0, 1, 1, 1, 2, 3, 4);
    }

    private static void pepper() {
        WoodliceSenate x = Told.of("", "gau;gad;gbu", Told.LIFT, 0, 0, Told.PEPPER, 0, 0, Told.PEPPER, 4, 0,
                Told.PEPPER, 4, 0, Told.PEPPER, 5, 1);
        DUE.is("at(0, 0, 1): rolled, but the other way up", x.at(0, 0, 1), 0);
        DUE.is("at(0, 1, 1)", x.at(0, 1, 1), 1);
        DUE.is("at(0, 2, 1): elsewhere", x.at(0, 2, 1), 1);
        DUE.is("at(4, 0, 1): twice in one hour", x.at(4, 0, 1), 0);
        DUE.is("at(5, 2, 1)", x.at(5, 2, 1), 0);
        // What lies on its back does not go: pepper comes ahead of the members.
        places(Told.of("0123", "gau", Told.PEPPER, 1, 1), 0, 1, 1, 1);
    }

    private static void frostAndRain() {
        WoodliceSenate x = Told.of("0189", "", Told.FROST, 3, 0, Told.RAIN, 3, 0);
        int[] frostFirst = {3, 3, 9, 9};
        for (int p = 0; p < 4; p++) {
            DUE.is("frost, then rain: damp(3, " + p + ", 0)", x.damp(3, p, 0), frostFirst[p]);
        }
        DUE.is("damp(2, 3, 0)", x.damp(2, 3, 0), 9);
        x = Told.of("0189", "", Told.RAIN, 3, 0, Told.FROST, 3, 0);
        int[] rainFirst = {1, 2, 7, 7};
        for (int p = 0; p < 4; p++) {
            DUE.is("rain, then frost: damp(19, " + p + ", 0)", x.damp(19, p, 0), rainFirst[p]);
        }
        DUE.is("damp(19, 11, 0)", x.damp(19, 11, 0), 6);
    }

    private static void speeches() {
        // The first passes over the least of two; that is upright then, the other lies still.
        WoodliceSenate x = Told.of("19", "gau;pbd;gbd");
        DUE.is("at(0, 0, 0)", x.at(0, 0, 0), 1);
        DUE.is("at(0, 1, 1)", x.at(0, 1, 1), 1);
        DUE.is("at(0, 2, 1)", x.at(0, 2, 1), 0);
        DUE.is("at(0, 0, 3)", x.at(0, 0, 3), 1);
        DUE.is("at(4, 0, 3): it made none more where it stays", x.at(4, 0, 3), 1);
        // The three dry up place 1; in hour 5 two go on to place 2, and the second passes over the first.
        DUE.is("at(5, 1, 3)", x.at(5, 1, 3), 1);
        DUE.is("count(4)", x.count(4), 2);
        // One passed over ahead of its turn lies and stays; a pale one passes over two on its way.
        x = Told.of("0123", "pau;gbu;gcu");
        DUE.is("at(0, 0, 3): two steps, two speeches", x.at(0, 0, 3), 2);
        DUE.is("at(0, 1, 0)", x.at(0, 1, 0), 1);
        DUE.is("at(0, 1, 1)", x.at(0, 1, 1), 0);
        DUE.is("at(0, 2, 0)", x.at(0, 2, 0), 2);
        DUE.is("at(1, 0, 3): nobody on its way", x.at(1, 0, 3), 2);
        DUE.is("house(0, 1)", x.house(0, 1), 2);
    }

    private static void speechesPassRolledOnesBy() {
        // In hour 2 the grey one goes, the old one is still rolled, the pale one is not.
        WoodliceSenate x = Told.of("19", "gau;obd;pbd", Told.LIFT, 0, 0);
        places(x, 0, 0, 0, 1);
        DUE.is("at(2, 1, 1)", x.at(2, 1, 1), 0);
        DUE.is("at(2, 2, 1)", x.at(2, 2, 1), 1);
        DUE.is("at(2, 0, 3)", x.at(2, 0, 3), 1);
        // With none but rolled ones there, there is no speech.
        x = Told.of("19", "pau;obu", Told.LIFT, 0, 0);
        places(x, 0, 0, 1, 1);
        DUE.is("at(19, 0, 3)", x.at(19, 0, 3), 0);
        DUE.is("at(19, 1, 1)", x.at(19, 1, 1), 1);
    }

    private static void crowdedPlacesDry() {
        WoodliceSenate x = Told.of("2", "pad;gad;oad", Told.LIFT, 0, 0);
        DUE.is("damp(0, 0, 0): rolled ones count", x.damp(0, 0, 0), 1);
        DUE.is("damp(1, 0, 0)", x.damp(1, 0, 0), 0);
        DUE.is("damp(2, 0, 0): 0 at least", x.damp(2, 0, 0), 0);
        DUE.is("damp(2, 0, 1)", x.damp(2, 0, 1), 3);
        DUE.is("damp(2, 1, 1)", x.damp(2, 1, 1), 0);
        x = Told.of("2", "pad;gad");
        DUE.is("two are no crowd", x.damp(19, 0, 0), 2);
        x = Told.of("55", "pau;gad;oad");
        DUE.is("one goes when it is drier", x.at(1, 0, 0), 1);
        DUE.is("damp(0, 0, 0)", x.damp(0, 0, 0), 4);
        DUE.is("damp(19, 0, 0)", x.damp(19, 0, 0), 4);
    }

    private static void divisions() {
        WoodliceSenate x = Told.of("", "pau;gbd", Told.LIFT, 3, 0);
        DUE.is("house(0, 0)", x.house(0, 0), 1);
        DUE.is("house(0, 1)", x.house(0, 1), 1);
        DUE.is("house(0, 2): like ones are not more", x.house(0, 2), 0);
        DUE.is("house(3, 0)", x.house(3, 0), 0);
        DUE.is("house(3, 1)", x.house(3, 1), 0);
        DUE.is("house(4, 0)", x.house(4, 0), 1);
        DUE.is("house(4, 1): rolled ones say nothing", x.house(4, 1), 0);
        DUE.is("house(4, 2)", x.house(4, 2), 1);
        DUE.is("house(5, 2)", x.house(5, 2), 0);
        DUE.is("governments()", x.governments(), 2);
        DUE.is("carried()", x.carried(), 1);
        DUE.is("count(5)", x.count(5), 19);
        x = Told.of("", "gau", Told.PEPPER, 19, 0);
        DUE.is("governments(): in the last hour", x.governments(), 1);
        DUE.is("carried(): but the last", x.carried(), 19);
        x = Told.of("", "gau", Told.PEPPER, 0, 0);
        DUE.is("governments(): not in hour 0", x.governments(), 0);
        DUE.is("carried(): none", x.carried(), 0);
        DUE.is("governments() of nobody", new WoodliceSenate().governments(), 0);
        DUE.is("carried() of nobody", new WoodliceSenate().carried(), 0);
    }

    private static void crowdIs(WoodliceSenate x, int hour, int place, int most) {
        DUE.is("crowd(0)", x.crowd(0), hour);
        DUE.is("crowd(1)", x.crowd(1), place);
        DUE.is("crowd(2)", x.crowd(2), most);
    }

    private static void crowd() {
        crowdIs(new WoodliceSenate(), -1, -1, -1);
        crowdIs(Told.of("", "gfu"), 0, 5, 1);
        crowdIs(Told.of("", "gfu;gad;gld;gad"), 0, 0, 2);
        crowdIs(Told.of("", "gld;gld;gld"), 0, 11, 3);
        crowdIs(Told.of("", "gfu;gcd;gfd;gcd"), 0, 2, 2);
        // The first comes behind the second in hour 2: ahead of that it sets it going each time.
        crowdIs(Told.of("01234321", "gbu;gdd"), 2, 4, 2);
        // In hour 0 each goes on as it is passed over; in hour 1 the second is, and lies.
        crowdIs(Told.of("0123", "gau;gbd;gcd"), 1, 2, 2);
        DUE.is("crowd(-1)", new WoodliceSenate().crowd(-1), -2);
        DUE.is("crowd(3)", Told.of("", "gau").crowd(3), -2);
    }

    private static void oratorAndStill() {
        DUE.is("orator() of nobody", new WoodliceSenate().orator(), -1);
        DUE.is("still() of nobody", new WoodliceSenate().still(), 0);
        DUE.is("orator(): be it none", Told.of("", "gau;gbu").orator(), 0);
        DUE.is("still()", Told.of("", "gau;gbu;gcd").still(), 7);
        DUE.is("orator()", Told.of("19", "gfu;gau;gbd").orator(), 1);
        DUE.is("still(): one went", Told.of("19", "gfu;gau;gbd").still(), 5);
        // Each passes over one of its own once: the least of like ones.
        WoodliceSenate x = Told.of("195555555591", "gfd;glu;gkd;gau;gbd");
        DUE.is("at(19, 1, 3)", x.at(19, 1, 3), 1);
        DUE.is("at(19, 3, 3)", x.at(19, 3, 3), 1);
        DUE.is("orator(): of like ones the least", x.orator(), 1);
        // Pepper sets it on its feet in hour 19, and it goes.
        x = Told.of("098", "gfd;gcd;gbd", Told.PEPPER, 19, 2);
        DUE.is("at(18, 1, 3)", x.at(18, 1, 3), 0);
        DUE.is("orator(): in the last hour", x.orator(), 1);
        // Dry weather behind it changes nothing: it went once.
        DUE.is("still(): it went in hour 0 alone", Told.of("56", "gau;gld", Told.FROST, 5, 0).still(), 2);
    }

    private static void refusals() {
        WoodliceSenate x = Told.of("", "gau");
        int[][] bad = {{-1, 0, 0}, {20, 0, 0}, {0, -1, 0}, {0, 12, 0}, {0, 0, -1}, {0, 0, 2}};
        for (int[] d : bad) {
            DUE.is("damp(" + d[0] + ", " + d[1] + ", " + d[2] + ")", x.damp(d[0], d[1], d[2]), -2);
        }
        int[][] worse = {{-1, 0, 0}, {20, 0, 0}, {0, -1, 0}, {0, 1, 0}, {0, 0, -1}, {0, 0, 4}};
        for (int[] d : worse) {
            DUE.is("at(" + d[0] + ", " + d[1] + ", " + d[2] + ")", x.at(d[0], d[1], d[2]), -2);
        }
        DUE.is("house(-1, 0)", x.house(-1, 0), -2);
        DUE.is("house(20, 0)", x.house(20, 0), -2);
        DUE.is("house(0, -1)", x.house(0, -1), -2);
        DUE.is("house(0, 3)", x.house(0, 3), -2);
    }
}
