/** Promises 8 to 10: events told, undone, and read from a sheet. */
public final class EventsTest {
    private static final Due DUE = new Due();

    private EventsTest() {
    }

    public static void main(String[] args) {
        telling();
        goingBack();
        reading();
        readingUpToARefusal();
        readingNoSheet();
        DUE.end();
    }

    private static void telling() {
        WoodliceSenate x = new WoodliceSenate();
        int[][] bad = {{-1, 0, 0}, {4, 0, 0}, {0, -1, 0}, {0, 20, 0}, {1, 0, -1}, {1, 0, 12}, {3, 0, 12}};
        for (int[] e : bad) {
            DUE.is("event(" + e[0] + ", " + e[1] + ", " + e[2] + ")", x.event(e[0], e[1], e[2]), -2);
        }
        DUE.is("count(1) behind refusals", x.count(1), 0);
        for (int n = 1; n <= 8; n++) {
            DUE.is("the " + n + "th event", x.event(n % 4, 19, 11), n);
        }
        DUE.is("a ninth", x.event(0, 0, 0), -4);
        DUE.is("a ninth that is none", x.event(0, 20, 0), -2);
        DUE.is("count(1)", x.count(1), 8);
    }

    private static void goingBack() {
        WoodliceSenate x = Told.of("", "gau", Told.PEPPER, 3, 0, Told.LIFT, 7, 0);
        DUE.is("carried()", x.carried(), 3);
        DUE.is("back()", x.back(), 1);
        DUE.is("at(7, 0, 2) without the lift", x.at(7, 0, 2), 0);
        DUE.is("back() again", x.back(), 0);
        DUE.is("carried() of no events", x.carried(), 20);
        DUE.is("back() of none", x.back(), -3);
        DUE.is("event() behind that", x.event(0, 0, 0), 1);
    }

    private static void reading() {
        WoodliceSenate x = Told.of("", "gau", Told.FROST, 0, 0);
        Told.fill(x, 2, 1, 1, 3, 0, 0, 7, 0, 2, 8);
        DUE.is("read(2): two are whole", x.read(2), 2);
        DUE.is("count(1)", x.count(1), 3);
        DUE.is("house(2, 2)", x.house(2, 2), 1);
        DUE.is("house(3, 2): the pepper was read", x.house(3, 2), 0);
        DUE.is("at(7, 0, 2): the lift was read", x.at(7, 0, 2), 1);
        DUE.is("damp(8, 0, 0): the frost told first, none read", x.damp(8, 0, 0), 3);
        DUE.is("get(2, 1, 7): the sheet is as it was", x.get(2, 1, 7), 8);
        x.sheet(2, 0, 0);
        DUE.is("read(2) of no items", x.read(2), 0);
    }

    private static void readingUpToARefusal() {
        WoodliceSenate x = new WoodliceSenate();
        Told.fill(x, 0, 2, 0, 1, 2, 0, 1, 12, 0, 1, 3);
        DUE.is("read(0) up to a place that is none", x.read(0), 1);
        DUE.is("count(1)", x.count(1), 1);
        DUE.is("count(8): that is no finding", x.count(8), 0);
        for (int n = 0; n < 5; n++) {
            x.event(0, 0, 0);
        }
        x.sheet(1, 0, 60);
        DUE.is("read(1) up to the eighth", x.read(1), 2);
        DUE.is("read(1) when there are eight", x.read(1), 0);
        DUE.is("count(1) of eight", x.count(1), 8);
    }

    private static void readingNoSheet() {
        WoodliceSenate x = new WoodliceSenate();
        DUE.is("read(-1)", x.read(-1), -2);
        DUE.is("read(4)", x.read(4), -2);
        DUE.is("count(8)", x.count(8), 0);
        DUE.is("read(3) of a lost one", x.read(3), -11);
        DUE.is("count(8) of NULL", x.count(8), 1);
        DUE.is("count(1)", x.count(1), 0);
    }
}
