/** Promises 23 to 28: what was seen, and what it tells. */
public final class SeenTest {
    private static final Due DUE = new Due();

    private SeenTest() {
    }

    public static void main(String[] args) {
        seeing();
        never();
        sort();
        wet();
        ask();
        askWhereMembersDryAPlace();
        nobody();
        DUE.end();
    }

    private static void seeing() {
        WoodliceSenate x = new WoodliceSenate();
        int[][] bad = {{-1, 0, 0}, {20, 0, 0}, {0, -1, 0}, {0, 8, 0}, {0, 0, -1}, {0, 0, 12}};
        for (int[] s : bad) {
            DUE.is("seen(" + s[0] + ", " + s[1] + ", " + s[2] + ")", x.seen(s[0], s[1], s[2]), -2);
        }
        for (int n = 1; n <= 8; n++) {
            DUE.is("the " + n + "th that was seen", x.seen(19, 7, 11), n);
        }
        DUE.is("a ninth", x.seen(0, 0, 0), -4);
        DUE.is("a ninth that is none", x.seen(0, 8, 0), -2);
        DUE.is("count(7)", x.count(7), 8);
        DUE.is("forget()", x.forget(), 8);
        DUE.is("forget() again", x.forget(), 0);
        DUE.is("count(7) of none", x.count(7), 0);
        DUE.is("seen() behind that", x.seen(0, 0, 0), 1);
    }

    private static void never() {
        WoodliceSenate x = Told.of("0123", "gau", Told.PEPPER, 0, 0, Told.LIFT, 5, 0);
        DUE.is("never() with nothing seen", x.never(), 3);
        x.seen(0, 0, 1);
        DUE.is("never(): it did not lie", x.never(), 1);
        x.seen(6, 0, 4);
        DUE.is("never() of two", x.never(), 1);
        x.seen(6, 0, 3);
        DUE.is("never() of what cannot be", x.never(), 0);
        x.forget();
        x.seen(0, 0, 0);
        DUE.is("never(): it lay", x.never(), 2);
        DUE.is("never() without events", Told.of("", "gau").never(), 0);
    }

    private static void sort() {
        WoodliceSenate x = Told.of("0123", "gau;ofu");
        DUE.is("sort(0) with nothing seen", x.sort(0), 7);
        x.seen(0, 0, 1);
        DUE.is("sort(0): no pale one", x.sort(0), 6);
        x.seen(1, 0, 2);
        DUE.is("sort(0): a grey one", x.sort(0), 2);
        DUE.is("sort(1): it stays", x.sort(1), 7);
        x.forget();
        x.seen(0, 0, 2);
        DUE.is("sort(0): a pale one", x.sort(0), 1);
        DUE.is("sort(1): none makes it so", x.sort(1), 0);
        DUE.is("member(0, 0) is as told", x.member(0, 0), 1);
        DUE.is("sort(-1)", x.sort(-1), -2);
        DUE.is("sort(2)", x.sort(2), -2);
    }

    private static void wet() {
        WoodliceSenate x = Told.of("0123", "gau");
        DUE.is("wet(0) with nothing seen", x.wet(0), 1023);
        x.seen(0, 0, 1);
        DUE.is("wet(0): less than 1", x.wet(0), 1);
        DUE.is("wet(1): more than 0", x.wet(1), 1022);
        DUE.is("wet(7)", x.wet(7), 1023);
        x.seen(1, 0, 2);
        DUE.is("wet(1): 1, for 2 is more damp", x.wet(1), 2);
        x.seen(2, 0, 2);
        DUE.is("wet(3): no more than 2", x.wet(3), 7);
        DUE.is("stone(3) is as told", x.stone(3), 3);
        DUE.is("wet(-1)", x.wet(-1), -2);
        DUE.is("wet(12)", x.wet(12), -2);
    }

    private static void ask() {
        WoodliceSenate x = Told.of("0123", "gau", Told.RAIN, 4, 0);
        DUE.is("ask(1) with nothing seen", x.ask(1), 0);
        x.seen(0, 0, 7);
        DUE.is("ask(1) where there are none", x.ask(1), 0);
        DUE.is("ask(-1)", x.ask(-1), -2);
        DUE.is("ask(12)", x.ask(12), -2);
    }

    /** Of 5 and 6 the three dry up the 6 at once; only in hour 6 the two are told apart. */
    private static void askWhereMembersDryAPlace() {
        WoodliceSenate x = Told.of("", "pdu;gdu;pdu");
        x.seen(3, 0, 0);
        DUE.is("wet(2)", x.wet(2), 32 + 64);
        DUE.is("ask(2)", x.ask(2), 6);
        int[] five = new int[7];
        int[] six = new int[7];
        for (int hour = 0; hour <= 6; hour++) {
            Told.retype(x, 0, "555");
            five[hour] = x.damp(hour, 2, 0);
            Told.retype(x, 0, "556");
            six[hour] = x.damp(hour, 2, 0);
            DUE.isTrue("alike behind hour " + hour + " but 6", (five[hour] == six[hour]) == (hour < 6));
        }
        x.forget();
        DUE.is("ask(2) of all firsts", x.ask(2), 0);
        for (int d = 2; d <= 8; d++) {
            WoodliceSenate y = Told.of(String.valueOf(d).repeat(12), "pdu;gdu;pdu");
            y.seen(3, 0, 0);
            DUE.is("wet(2) where it is " + d + " elsewhere", y.wet(2), 3 << d);
            DUE.is("ask(2) where it is " + d + " elsewhere", y.ask(2), 6);
        }
    }

    private static void nobody() {
        WoodliceSenate x = Told.of("", "gau", Told.RAIN, 4, 0);
        x.seen(3, 1, 0);
        DUE.is("never() of one that there is not", x.never(), 0);
        DUE.is("sort(0) of one that there is not", x.sort(0), 0);
        DUE.is("wet(0) of one that there is not", x.wet(0), 0);
        DUE.is("ask(0) of one that there is not", x.ask(0), 0);
        Told.retype(x, 1, "gau;gau");
        DUE.is("never() when there is", x.never(), 1);
    }
}
