import java.math.BigInteger;

/** Promises 37 and 38, and how long an object is used: their edges. */
public final class CountEdgesTest {
    private static final Edges EDGES = new Edges();
    private static final int LIFT = Told.LIFT, PEPPER = Told.PEPPER, FROST = Told.FROST, RAIN = Told.RAIN;
    private static final String STONE = "987654321098", MEMBERS = "pau;gbd;ocu;pdd;geu;ofd;pgu;gld";
    private static final int[] EVENTS = {LIFT, 0, 0, PEPPER, 1, 1, FROST, 2, 2, RAIN, 3, 3, LIFT, 4, 4, PEPPER, 5, 5,
        FROST, 6, 6, RAIN, 19, 11};

    private CountEdgesTest() {
    }

    public static void main(String[] args) {
        countsOf0To8();
        countsFromNoneToAll();
        theLatestFinding();
        badIsNoFinding();
        digestOfNothingAndOfAll();
        fiveHundredAndTwelveCalls();
        EDGES.end();
    }

    private static WoodliceSenate some() {
        return Told.of("0123", "gau;pbd;old", PEPPER, 2, 1, LIFT, 3, 0);
    }

    /** All that there is room for. */
    private static WoodliceSenate full() {
        WoodliceSenate x = Told.of(STONE, MEMBERS, EVENTS);
        for (int i = 0; i < 8; i++) {
            x.seen(i, 7, 11);
        }
        return x;
    }

    private static void countsOf0To8() {
        EDGES.is("count(0)", some().count(0), 3);
        EDGES.is("count(8)", some().count(8), 0);
        for (int what : new int[] {-1, 9, Edges.LEAST, Edges.MOST}) {
            EDGES.refused("count(" + what + ")", CountEdgesTest::some, x -> x.count(what), -2);
        }
    }

    private static long[] counts(WoodliceSenate x) {
        long[] all = new long[9];
        for (int what = 0; what < 9; what++) {
            all[what] = x.count(what);
        }
        return all;
    }

    private static void countsFromNoneToAll() {
        EDGES.row("counts of a new object", counts(new WoodliceSenate()), 0, 0, 0, 0, 0, 0, 0, 0, 0);
        WoodliceSenate x = full();
        EDGES.row("counts of a full one", new long[] {x.count(0), x.count(1), x.count(2), x.count(3), x.count(6),
            x.count(7), x.count(8)}, 8, 8, 12, 31, 12, 8, 0);
        EDGES.is("AYES: of eight in twenty hours", Told.of("", "gau;gcu;geu;ggu;giu;gku;gbu;gdu").count(5), 160);
        EDGES.is("AYES: of eight on their backs", Told.of("", "gad;gcd;ged;ggd;gid;gkd;gbd;gdd").count(5), 0);
        EDGES.row("SPEECHES: none, one", new long[] {Told.of("010", "gau;gcd").count(4),
            Told.of("010", "gau;gbd").count(4)}, 0, 1);
        EDGES.row("with faults", counts(Told.of("1x", "gau;")), 0, 0, 2, 4, 0, 0, 0, 0, 0);
    }

    /** "8 the number of the latest FINDING (0 before any)". */
    private static void theLatestFinding() {
        WoodliceSenate x = new WoodliceSenate();
        EDGES.is("before any", x.count(8), 0);
        x.sheet(0, 0, -1);
        EDGES.is("SIZE", x.count(8), 5);
        x.lose(0);
        EDGES.is("NULL", x.count(8), 1);
        x.sheet(0, 0, 1);
        x.sheet(1, 1, 1);
        x.get(0, 0, 1);
        EDGES.is("INDEX", x.count(8), 2);
        x.put(0, 1, 0, 0);
        EDGES.is("CAST", x.count(8), 3);
        x.copy(0, 0, 1, 0, 1);
        EDGES.is("STORE", x.count(8), 4);
        x.put(0, 0, 0, 1);
        x.get(0, 0, 0);
        EDGES.is("what is well is none", x.count(8), 4);
        x.sheet(0, 0, -1);
        EDGES.is("SIZE again", x.count(8), 5);
    }

    /** BAD, NOT and FULL are no findings. */
    private static void badIsNoFinding() {
        WoodliceSenate x = full();
        x.lose(0);
        EDGES.row("BAD, FULL, NOT", new long[] {x.sheet(0, 0, 61), x.get(4, 0, 0), x.type(0, '1'), x.event(0, 0, 0),
            x.seen(0, 0, 0), x.write(20, 0), x.read(4)}, -2, Edges.LEAST, -4, -4, -4, -2, -2);
        EDGES.is("count(8)", x.count(8), 1);
        WoodliceSenate y = new WoodliceSenate();
        EDGES.row("NOT", new long[] {y.undo(0), y.back(), y.count(8)}, -3, -3, 0);
    }

    private static BigInteger next(BigInteger h, long... answers) {
        BigInteger all = h;
        for (long answer : answers) {
            all = all.multiply(BigInteger.valueOf(31)).add(BigInteger.valueOf(answer));
        }
        return all;
    }

    /** Of a new object by hand, "as longs that wrap": no members stand in it, and all of the rest does. */
    private static void digestOfNothingAndOfAll() {
        BigInteger h = next(BigInteger.valueOf(17), 0, 0, 0, 0, 0, 0, 0, 0);
        h = next(h, -1, -1);
        for (int p = 0; p < 12; p++) {
            h = next(h, 5, 5, 0, 5, 0, 1023, 0);
        }
        for (int hour = 0; hour < 20; hour++) {
            h = next(h, 0, 0, 0);
        }
        h = next(h, 0, 0, -1, -1, -1, -1, 0);
        h = next(h, 0, 0, 0, 0, -1, -1, 0, 0, 1, 0, 0);
        EDGES.is("digest() of a new object", new WoodliceSenate().digest(), h.longValue());
        EDGES.is("digest() with faults is of none, but of their bytes, too",
                Told.of("x", "p").digest() == new WoodliceSenate().digest() ? 1 : 0, 0);
        Model model = new Model();
        WoodliceSenate x = full();
        fillModel(model);
        EDGES.is("digest() of a full one", x.digest(), model.digest());
        EDGES.is("digest() again", x.digest(), model.digest());
    }

    private static void fillModel(Model model) {
        for (char b : STONE.toCharArray()) {
            model.type(0, b);
        }
        for (char b : MEMBERS.toCharArray()) {
            model.type(1, b);
        }
        for (int i = 0; i < EVENTS.length; i += 3) {
            model.event(EVENTS[i], EVENTS[i + 1], EVENTS[i + 2]);
        }
        for (int i = 0; i < 8; i++) {
            model.seen(i, 7, 11);
        }
    }

    /** "An object is used for at most 512 calls": the last of them is answered as the first. */
    private static void fiveHundredAndTwelveCalls() {
        WoodliceSenate x = new WoodliceSenate();
        for (int i = 0; i < 508; i += 4) {
            EDGES.is("event", x.event(LIFT, 3, 0), 1);
            EDGES.is("type", x.type(1, 'p'), 1);
            EDGES.is("wipe", x.wipe(1), 1);
            EDGES.is("back", x.back(), 0);
        }
        EDGES.is("call 509", x.type(0, '9'), 1);
        EDGES.is("call 510", x.damp(19, 0, 0), 9);
        EDGES.is("call 511", x.undo(0), 0);
        EDGES.is("call 512", x.digest(), new WoodliceSenate().digest());
    }
}
