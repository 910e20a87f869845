/** Promises 19 to 22: the seat, the dust, the boy, the calm. */
public final class PlansTest {
    private static final Due DUE = new Due();

    private PlansTest() {
    }

    public static void main(String[] args) {
        seat();
        dust();
        boy();
        calm();
        nothingIsChanged();
        DUE.end();
    }

    private static void seat() {
        WoodliceSenate x = Told.of("", "gdu", Told.PEPPER, 4, 0, Told.PEPPER, 2, 1, Told.PEPPER, 0, 2);
        DUE.is("seat(0, 0): the first that is not peppered", x.seat(0, 0), 3);
        DUE.is("seat(0, 1)", x.seat(0, 1), 20);
        x.event(Told.LIFT, 6, 0);
        DUE.is("seat(0, 1): a lift is for all places", x.seat(0, 1), 18);
        x = Told.of("", "gdu");
        DUE.is("seat(0, 0): of like ones the least", x.seat(0, 0), 0);
        // On its back it says no wherever it is; pepper helps at place 7 alone, and soonest there.
        x = Told.of("", "gad", Told.PEPPER, 9, 0, Told.PEPPER, 5, 7);
        DUE.is("seat(0, 0)", x.seat(0, 0), 7);
        DUE.is("seat(0, 1)", x.seat(0, 1), 15);
        DUE.is("carried() as told", x.carried(), 11);
        DUE.is("seat(-1, 0)", x.seat(-1, 0), -2);
        DUE.is("seat(1, 0)", x.seat(1, 0), -2);
        DUE.is("seat(0, -1)", x.seat(0, -1), -2);
        DUE.is("seat(0, 2)", x.seat(0, 2), -2);
    }

    private static void dust() {
        WoodliceSenate x = Told.of("", "gdd");
        DUE.is("dust(5, 0)", x.dust(5, 0), 3);
        DUE.is("dust(5, 1)", x.dust(5, 1), 15);
        DUE.is("dust(19, 1)", x.dust(19, 1), 1);
        for (int n = 0; n < 8; n++) {
            x.event(Told.RAIN, n, 0);
        }
        DUE.is("dust(5, 0) where there is no room", x.dust(5, 0), 3);
        DUE.is("dust(5, 1) where there is no room", x.dust(5, 1), 15);
        DUE.is("count(1)", x.count(1), 8);
        x = Told.of("", "gau");
        DUE.is("dust(0, 0): better elsewhere", x.dust(0, 0), 1);
        DUE.is("dust(0, 1)", x.dust(0, 1), 20);
        // It lies from hour 3 on, and where it went to counts.
        x = Told.of("0123", "gau", Told.PEPPER, 3, 3);
        DUE.is("dust(4, 0)", x.dust(4, 0), 3);
        DUE.is("dust(4, 1)", x.dust(4, 1), 19);
        DUE.is("dust(-1, 0)", x.dust(-1, 0), -2);
        DUE.is("dust(20, 0)", x.dust(20, 0), -2);
        DUE.is("dust(0, -1)", x.dust(0, -1), -2);
        DUE.is("dust(0, 2)", x.dust(0, 2), -2);
    }

    private static void boy() {
        WoodliceSenate x = Told.of("", "gau");
        DUE.is("boy(0)", x.boy(0), 1);
        DUE.is("boy(1)", x.boy(1), 2);
        x = Told.of("", "gau", Told.LIFT, 1, 0);
        DUE.is("boy(0): a second time", x.boy(0), 4);
        DUE.is("boy(1)", x.boy(1), 4);
        for (int n = 0; n < 7; n++) {
            x.event(Told.RAIN, n, 0);
        }
        DUE.is("boy(1) where there is no room", x.boy(1), 4);
        x = Told.of("", "gad");
        DUE.is("boy(0): of like ones the least", x.boy(0), 0);
        DUE.is("boy(1): none", x.boy(1), 0);
        DUE.is("boy(-1)", x.boy(-1), -2);
        DUE.is("boy(2)", x.boy(2), -2);
    }

    private static void calmIs(String told, WoodliceSenate x, int size, int first, int second) {
        DUE.is(told + ": calm(-1)", x.calm(-1), size);
        DUE.is(told + ": calm(0)", x.calm(0), first);
        DUE.is(told + ": calm(1)", x.calm(1), second);
    }

    private static void calm() {
        calmIs("no events", Told.of("", "gau"), 0, -1, -1);
        calmIs("nobody", new WoodliceSenate(), -1, -1, -1);
        calmIs("a lift", Told.of("", "gau", Told.LIFT, 3, 0), 1, 0, -1);
        calmIs("frost, lift", Told.of("", "gau", Told.FROST, 1, 0, Told.LIFT, 3, 0), 1, 1, -1);
        calmIs("lift, frost, lift",
                Told.of("", "gau", Told.LIFT, 9, 0, Told.FROST, 1, 0, Told.LIFT, 3, 0), 2, 0, 2);
        calmIs("two lifts", Told.of("", "gau", Told.LIFT, 9, 0, Told.LIFT, 3, 0), 2, 0, 1);
        calmIs("frost, two lifts",
                Told.of("", "gau", Told.FROST, 9, 0, Told.LIFT, 9, 0, Told.LIFT, 3, 0), 2, 1, 2);
        calmIs("three lifts", Told.of("", "gau", Told.LIFT, 0, 0, Told.LIFT, 5, 0, Told.LIFT, 9, 0), -1, -1, -1);
        calmIs("two peppers", Told.of("", "gau", Told.PEPPER, 2, 0, Told.PEPPER, 2, 0), 0, -1, -1);
        calmIs("three peppers",
                Told.of("", "gau", Told.PEPPER, 2, 0, Told.PEPPER, 2, 0, Told.PEPPER, 2, 0), 1, 0, -1);
        DUE.is("calm(-2)", new WoodliceSenate().calm(-2), -2);
        DUE.is("calm(2)", new WoodliceSenate().calm(2), -2);
    }

    private static void nothingIsChanged() {
        WoodliceSenate x = Told.of("0123", "gau;pbd", Told.PEPPER, 2, 1, Told.LIFT, 3, 0);
        WoodliceSenate y = Told.of("0123", "gau;pbd", Told.PEPPER, 2, 1, Told.LIFT, 3, 0);
        x.seat(0, 0);
        x.dust(4, 1);
        x.boy(0);
        x.calm(0);
        x.never();
        x.sort(1);
        x.wet(3);
        x.ask(1);
        x.chance(7, 4, 0);
        x.ages(3, 8, 1);
        DUE.is("member(0, 1) behind plans", x.member(0, 1), 0);
        DUE.is("digest() behind plans", x.digest(), y.digest());
    }
}
