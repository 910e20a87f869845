/** Promises 8 to 10: each sentence that names a boundary of the events, asked on it and just beyond it. */
public final class EventEdgesTest {
    private static final Edges EDGES = new Edges();

    private EventEdgesTest() {
    }

    public static void main(String[] args) {
        kindsOf0To3();
        hoursOf0To19();
        placesOf0To11();
        thePlaceCountsOfPepperAlone();
        eightAtMost();
        backToNone();
        asManyAsAreWhole();
        upToTheFirstThatIsRefused();
        upToTheEighth();
        sheetsOf0To3();
        aSheetThatIsLost();
        EDGES.end();
    }

    private static WoodliceSenate withEvents(int n) {
        WoodliceSenate x = Told.of("5678", "gau;pfu;old");
        for (int i = 0; i < n; i++) {
            x.event(i % 4, 2 * i, i);
        }
        return x;
    }

    private static WoodliceSenate withThree() {
        return withEvents(3);
    }

    private static WoodliceSenate withEight() {
        return withEvents(8);
    }

    /** "a kind": 0 a LIFT to 3 a RAIN. */
    private static void kindsOf0To3() {
        EDGES.is("event(0, 5, 5)", withThree().event(0, 5, 5), 4);
        EDGES.is("event(3, 5, 5)", withThree().event(3, 5, 5), 4);
        for (int kind : new int[] {-1, 4, Edges.LEAST, Edges.MOST}) {
            EDGES.refused("event(" + kind + ", 5, 5)", EventEdgesTest::withThree, x -> x.event(kind, 5, 5), -2);
        }
    }

    /** "HOURS are 0 to 19." */
    private static void hoursOf0To19() {
        WoodliceSenate x = Told.of("", "gau");
        EDGES.is("event(1, 0, 0)", x.event(1, 0, 0), 1);
        EDGES.is("it is done in the first hour", x.house(0, 0), 0);
        EDGES.is("event(1, 19, 0)", x.event(1, 19, 0), 2);
        EDGES.row("it is done in the last hour", new long[] {x.house(18, 0), x.house(19, 0)}, 0, 1);
        for (int hour : new int[] {-1, 20, Edges.LEAST, Edges.MOST}) {
            EDGES.refused("event(1, " + hour + ", 5)", EventEdgesTest::withThree, y -> y.event(1, hour, 5), -2);
        }
    }

    /** "a PLACE (0 to 11)", whatever the kind. */
    private static void placesOf0To11() {
        WoodliceSenate x = Told.of("", "gau;glu");
        EDGES.is("event(1, 0, 0)", x.event(1, 0, 0), 1);
        EDGES.is("event(1, 1, 11)", x.event(1, 1, 11), 2);
        EDGES.row("each is done at its place", new long[] {x.at(0, 0, 1), x.at(0, 1, 1), x.at(1, 0, 1),
            x.at(1, 1, 1)}, 0, 1, 0, 0);
        for (int kind = 0; kind < 4; kind++) {
            int k = kind;
            EDGES.is("event(" + k + ", 5, 11)", withThree().event(k, 5, 11), 4);
            for (int place : new int[] {-1, 12, Edges.LEAST, Edges.MOST}) {
                EDGES.refused("event(" + k + ", 5, " + place + ")", EventEdgesTest::withThree,
                        y -> y.event(k, 5, place), -2);
            }
        }
    }

    /** "(the PLACE counts of PEPPER alone)". */
    private static void thePlaceCountsOfPepperAlone() {
        for (int kind = 0; kind < 4; kind++) {
            WoodliceSenate x = Told.of("5678", "gau;pfu;old", kind, 4, 0);
            WoodliceSenate y = Told.of("5678", "gau;pfu;old", kind, 4, 11);
            if (kind == Told.PEPPER) {
                EDGES.unlike("pepper at place 0, at place 11", x, y);
            } else {
                EDGES.alike("kind " + kind + " at place 0, at place 11", x, y);
            }
        }
    }

    /** "EVENTS, 8 at most (0 on)": FULL behind them. */
    private static void eightAtMost() {
        WoodliceSenate x = withEvents(7);
        EDGES.is("the eighth", x.event(1, 19, 3), 8);
        EDGES.is("a ninth", x.event(1, 19, 3), -4);
        EDGES.is("back()", x.back(), 7);
        EDGES.is("an eighth again", x.event(0, 0, 0), 8);
        EDGES.is("it counts: rolled in hour 0", x.at(0, 0, 2), 1);
        EDGES.refused("event(1, 0, 0) when there are eight", EventEdgesTest::withEight, y -> y.event(1, 0, 0), -4);
        EDGES.refused("event(4, 0, 0) when there are eight: BAD first", EventEdgesTest::withEight,
                y -> y.event(4, 0, 0), -2);
        EDGES.refused("event(0, 20, 0) when there are eight: BAD first", EventEdgesTest::withEight,
                y -> y.event(0, 20, 0), -2);
        EDGES.refused("event(0, 0, 12) when there are eight: BAD first", EventEdgesTest::withEight,
                y -> y.event(0, 0, 12), -2);
    }

    /** "The last EVENT is undone: how many are left. NOT: there is none." */
    private static void backToNone() {
        WoodliceSenate x = withEight();
        for (int left = 7; left >= 0; left--) {
            EDGES.is("back()", x.back(), left);
        }
        EDGES.is("back() of none", x.back(), -3);
        EDGES.is("event() behind that", x.event(0, 0, 0), 1);
        EDGES.refused("back() of none", () -> withEvents(0), WoodliceSenate::back, -3);
        x = withEvents(4);
        x.back();
        EDGES.alike("four, but the last is undone", x, withThree());
    }

    /** "its items, three for each, as many as are whole". */
    private static void asManyAsAreWhole() {
        for (int n = 0; n <= 26; n++) {
            WoodliceSenate x = Told.of("", "gau");
            x.sheet(1, 0, n);
            EDGES.is("read(1) of " + n + " items", x.read(1), n / 3);
            EDGES.is("count(1) behind " + n + " items", x.count(1), n / 3);
        }
        WoodliceSenate x = Told.of("", "gau");
        Told.fill(x, 3, 2, 1, 2, 0, 1, 4);
        EDGES.is("read(3) of one and two thirds", x.read(3), 1);
        EDGES.row("the first alone is done", new long[] {x.house(1, 0), x.house(2, 0), x.house(4, 0)}, 1, 0, 0);
        EDGES.is("read(3) once more: behind those that there are", x.read(3), 1);
        EDGES.is("count(1)", x.count(1), 2);
        EDGES.is("twice the other way up", x.house(2, 0), 1);
    }

    private static void readsOf(int want, int... items) {
        WoodliceSenate x = new WoodliceSenate();
        Told.fill(x, 0, 2, items);
        EDGES.is("read(0) up to a refused one", x.read(0), want);
        EDGES.is("count(1) then", x.count(1), want);
        EDGES.is("count(8): that is no finding", x.count(8), 0);
    }

    /** "one by one as event() takes them, up to the first that it refuses: how many it took". */
    private static void upToTheFirstThatIsRefused() {
        readsOf(3, 0, 0, 0, 3, 19, 11, 1, 0, 11);
        readsOf(0, -1, 0, 0, 0, 0, 0);
        readsOf(0, 4, 0, 0, 0, 0, 0);
        readsOf(1, 0, 0, 0, 0, -1, 0, 0, 0, 0);
        readsOf(1, 0, 0, 0, 0, 20, 0, 0, 0, 0);
        readsOf(2, 0, 0, 0, 0, 0, 0, 2, 0, -1, 0, 0, 0);
        readsOf(2, 0, 0, 0, 0, 0, 0, 2, 0, 12, 0, 0, 0);
        readsOf(2, 0, 0, 0, 0, 0, 0, Edges.LEAST, 0, 0, 0, 0, 0);
        readsOf(2, 0, 0, 0, 0, 0, 0, 0, Edges.MOST, 0, 0, 0, 0);
    }

    /** FULL ends it, too: no more than eight in all. */
    private static void upToTheEighth() {
        for (int told = 0; told <= 8; told++) {
            WoodliceSenate x = withEvents(told);
            x.sheet(0, 1, 27);
            EDGES.is("read(0) of nine behind " + told, x.read(0), 8 - told);
            EDGES.is("count(1) of " + told + " and what was read", x.count(1), 8);
        }
        WoodliceSenate x = withEvents(7);
        Told.fill(x, 0, 0, 2, 19, 0);
        EDGES.is("read(0) for the last room", x.read(0), 1);
        EDGES.is("it is done: 8 more damp by 3, less by 2", x.damp(19, 3, 0) < x.damp(18, 3, 0) ? 1 : 0, 1);
    }

    /** "BAD" of a SHEET that there is not, ahead of NULL. */
    private static void sheetsOf0To3() {
        for (int s : new int[] {-1, 4, Edges.LEAST, Edges.MOST}) {
            EDGES.refused("read(" + s + ")", EventEdgesTest::withThree, x -> x.read(s), -2);
        }
        for (int s : new int[] {0, 3}) {
            WoodliceSenate x = withThree();
            x.sheet(s, 0, 3);
            EDGES.is("read(" + s + ")", x.read(s), 1);
        }
    }

    /** "NULL: the SHEET is LOST", of one with no items it is not. */
    private static void aSheetThatIsLost() {
        EDGES.finds("read(0) of a new object", WoodliceSenate::new, x -> x.read(0), Edges.NULL);
        EDGES.finds("read(3) of a lost one when there are eight", EventEdgesTest::withEight, x -> x.read(3),
                Edges.NULL);
        WoodliceSenate x = new WoodliceSenate();
        x.sheet(3, 2, 0);
        EDGES.is("read(3) of no items", x.read(3), 0);
        EDGES.is("count(8)", x.count(8), 0);
        x.lose(3);
        EDGES.is("read(3) of what was lost", x.read(3), -11);
    }
}
