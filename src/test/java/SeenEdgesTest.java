/** Promises 23 to 28: each sentence that names a boundary of what was seen, asked on it and just beyond it. */
public final class SeenEdgesTest {
    private static final Edges EDGES = new Edges();
    private static final int LIFT = Told.LIFT, PEPPER = Told.PEPPER, FROST = Told.FROST, RAIN = Told.RAIN;

    private SeenEdgesTest() {
    }

    public static void main(String[] args) {
        hoursMembersPlaces();
        eightAtMost();
        forgettingAll();
        oneThatThereIsNot();
        neverOfNoneToEight();
        neverAlone();
        sortOfAMemberThatThereIs();
        sortAsBits();
        wetOfPlaces0To11();
        wetAsBits();
        askOfPlaces0To11();
        askWhereThereAreNone();
        askFromFirstToLast();
        askWhereAllAreAlike();
        askByAllFirsts();
        EDGES.end();
    }

    private static WoodliceSenate some() {
        WoodliceSenate x = Told.of("0123", "gau;pbd;old", PEPPER, 2, 1, LIFT, 3, 0, FROST, 19, 0);
        x.seen(0, 0, 1);
        x.seen(0, 2, 11);
        return x;
    }

    private static WoodliceSenate eight() {
        WoodliceSenate x = some();
        for (int i = 0; i < 6; i++) {
            x.seen(i, 2, 11);
        }
        return x;
    }

    /** "behind an HOUR a MEMBER (0 to 7; ...) was at a PLACE". */
    private static void hoursMembersPlaces() {
        EDGES.is("seen(0, 0, 0)", some().seen(0, 0, 0), 3);
        EDGES.is("seen(19, 7, 11)", some().seen(19, 7, 11), 3);
        EDGES.is("seen(19, 7, 11) of nobody", new WoodliceSenate().seen(19, 7, 11), 1);
        for (int hour : new int[] {-1, 20, Edges.LEAST, Edges.MOST}) {
            EDGES.refused("seen(" + hour + ", 0, 0)", SeenEdgesTest::some, x -> x.seen(hour, 0, 0), -2);
        }
        for (int m : new int[] {-1, 8, Edges.LEAST, Edges.MOST}) {
            EDGES.refused("seen(0, " + m + ", 0)", SeenEdgesTest::some, x -> x.seen(0, m, 0), -2);
        }
        for (int place : new int[] {-1, 12, Edges.LEAST, Edges.MOST}) {
            EDGES.refused("seen(0, 0, " + place + ")", SeenEdgesTest::some, x -> x.seen(0, 0, place), -2);
        }
    }

    /** "SEEN, 8 at most": FULL behind them. */
    private static void eightAtMost() {
        WoodliceSenate x = eight();
        EDGES.is("count(7)", x.count(7), 8);
        EDGES.is("a ninth", x.seen(0, 0, 0), -4);
        EDGES.is("sort(2): the ninth counts for nothing", x.sort(2), 7);
        EDGES.refused("seen(0, 0, 0) when there are eight", SeenEdgesTest::eight, y -> y.seen(0, 0, 0), -4);
        EDGES.refused("seen(0, 8, 0) when there are eight: BAD first", SeenEdgesTest::eight, y -> y.seen(0, 8, 0), -2);
        // The eighth counts: it alone cannot be.
        WoodliceSenate y = new WoodliceSenate();
        Told.typeAll(y, 1, "gau");
        for (int i = 0; i < 7; i++) {
            y.seen(i, 0, 0);
        }
        EDGES.is("sort(0) of seven", y.sort(0), 7);
        EDGES.is("the eighth", y.seen(19, 0, 1), 8);
        EDGES.is("sort(0) of eight", y.sort(0), 0);
    }

    /** "All SEEN are forgotten: how many." */
    private static void forgettingAll() {
        WoodliceSenate x = new WoodliceSenate();
        EDGES.is("forget() of none", x.forget(), 0);
        x.seen(0, 0, 0);
        EDGES.is("forget() of one", x.forget(), 1);
        EDGES.is("forget() again", x.forget(), 0);
        x = eight();
        EDGES.is("forget() of eight", x.forget(), 8);
        EDGES.is("count(7)", x.count(7), 0);
        EDGES.is("seen() where there is room again", x.seen(5, 5, 5), 1);
        x.forget();
        WoodliceSenate y = some();
        y.forget();
        EDGES.alike("all forgotten", x, y);
    }

    /** "of one that there is not nothing ever comes out so". */
    private static void oneThatThereIsNot() {
        for (int m = 0; m < 8; m++) {
            WoodliceSenate x = Told.of("", "gau;gau;gau", RAIN, 0, 0);
            x.seen(0, m, 0);
            boolean there = m < 3;
            EDGES.row("member " + m + " of three", new long[] {x.never(), x.sort(0), x.wet(5), x.ask(5)},
                    there ? 1 : 0, there ? 7 : 0, there ? 1023 : 0, 0);
        }
        WoodliceSenate x = new WoodliceSenate();
        x.seen(0, 0, 0);
        EDGES.is("wet(0) of nobody", x.wet(0), 0);
        // What is seen is kept until there is such a one.
        Told.typeAll(x, 1, "gau");
        EDGES.is("wet(0) of one that came later", x.wet(0), 1023 - 31);
    }

    /** "EVENTS each of which ..., as bits": none of none, bit 7 of eight. */
    private static void neverOfNoneToEight() {
        EDGES.is("no events, nothing seen", Told.of("", "gau").never(), 0);
        WoodliceSenate x = Told.of("", "gau");
        x.seen(0, 0, 0);
        EDGES.is("no events, one seen", x.never(), 0);
        for (int n = 1; n <= 8; n++) {
            x.event(FROST, 19, 0);
            EDGES.is("never() of " + n, x.never(), (1 << n) - 1);
        }
        WoodliceSenate y = Told.of("01", "gau", FROST, 19, 0, FROST, 19, 0, FROST, 19, 0, FROST, 19, 0, FROST, 19, 0,
                FROST, 19, 0, FROST, 19, 0, LIFT, 0, 0);
        y.seen(0, 0, 0);
        EDGES.is("all but the eighth: that kept it", y.never(), 127);
        y.forget();
        y.seen(0, 0, 1);
        EDGES.is("the eighth alone", y.never(), 128);
    }

    /** "had it alone not been". */
    private static void neverAlone() {
        WoodliceSenate x = Told.of("01", "gau", LIFT, 0, 0, LIFT, 0, 0);
        x.seen(0, 0, 1);
        EDGES.is("two lifts: not either alone", x.never(), 0);
        x.back();
        EDGES.is("one lift", x.never(), 1);
        x.seen(0, 0, 0);
        EDGES.is("at two places in one hour", x.never(), 0);
    }

    /** "BAD" of a member that there is not. */
    private static void sortOfAMemberThatThereIs() {
        EDGES.is("sort(7) of eight", Told.of("", "gau;gbd;gcu;gdd;geu;gfd;ggu;ghd").sort(7), 7);
        EDGES.refused("sort(8) of eight", () -> Told.of("", "gau;gbd;gcu;gdd;geu;gfd;ggu;ghd"), x -> x.sort(8), -2);
        EDGES.refused("sort(3) of three", SeenEdgesTest::some, x -> x.sort(3), -2);
        EDGES.refused("sort(0) of nobody", WoodliceSenate::new, x -> x.sort(0), -2);
        for (int m : new int[] {-1, Edges.LEAST, Edges.MOST}) {
            EDGES.refused("sort(" + m + ")", SeenEdgesTest::some, x -> x.sort(m), -2);
        }
    }

    private static WoodliceSenate walker(int... seen) {
        WoodliceSenate x = Told.of("012345678", "oau");
        for (int i = 0; i + 1 < seen.length; i += 2) {
            x.seen(seen[i], 0, seen[i + 1]);
        }
        return x;
    }

    /** "0 p, 1 g, 2 o, in place of its own, likewise, as bits". */
    private static void sortAsBits() {
        EDGES.is("nothing seen", walker().sort(0), 7);
        EDGES.is("a pale one", walker(0, 2).sort(0), 1);
        EDGES.is("a grey one, an old one", walker(0, 1).sort(0), 6);
        EDGES.is("a grey one", walker(0, 1, 1, 2).sort(0), 2);
        EDGES.is("an old one", walker(0, 1, 1, 1).sort(0), 4);
        EDGES.is("none of them", walker(0, 3).sort(0), 0);
        EDGES.is("a pale one in 3 at the end of it", walker(3, 8).sort(0), 1);
        EDGES.is("a grey one is not in 6", walker(6, 8).sort(0), 1);
        EDGES.is("a grey one in 7", walker(7, 8).sort(0), 3);
        EDGES.is("an old one is not in 13", walker(13, 8).sort(0), 3);
        EDGES.is("an old one in 14", walker(14, 8).sort(0), 7);
        EDGES.is("it is an old one yet", walker(0, 1).member(0, 0), 2);
    }

    private static void wetOfPlaces0To11() {
        EDGES.is("wet(0)", walker().wet(0), 1023);
        EDGES.is("wet(11)", walker().wet(11), 1023);
        for (int p : new int[] {-1, 12, Edges.LEAST, Edges.MOST}) {
            EDGES.refused("wet(" + p + ")", SeenEdgesTest::some, x -> x.wet(p), -2);
            EDGES.refused("ask(" + p + ")", SeenEdgesTest::some, x -> x.ask(p), -2);
        }
    }

    private static int wet(String stone, String members, int hour, int place, int of) {
        WoodliceSenate x = Told.of(stone, members);
        x.seen(hour, 0, place);
        return x.wet(of);
    }

    /** "0 to 9 at first, in place of its own, likewise, as bits": from bit 0 alone to bit 9 alone. */
    private static void wetAsBits() {
        for (int d = 0; d <= 9; d++) {
            // It goes from place 0, d damp, to place 1 by what is more, and stays by what is like it.
            EDGES.is(d + " at 0: it went to 1", wet(d + "50", "gau", 0, 1, 1), 1023 & -(2 << d));
            EDGES.is(d + " at 0: it stayed", wet(d + "50", "gau", 0, 0, 1), (2 << d) - 1);
            EDGES.is(d + " at 1: it left 0", wet("5" + d + "0", "gau", 0, 1, 0), (1 << d) - 1);
            EDGES.is(d + " at 1: it stayed", wet("5" + d + "0", "gau", 0, 0, 0), 1023 & -(1 << d));
        }
        EDGES.is("a later place", wet("5", "gau", 0, 0, 11), 1023);
        EDGES.is("a place by a fault's 5", wet("x", "gau", 0, 1, 0), 31);
        WoodliceSenate x = Told.of("850", "gau");
        x.wet(0);
        EDGES.row("it is as damp as told yet", new long[] {x.stone(0), x.damp(0, 0, 0)}, 8, 8);
    }

    private static void askOfPlaces0To11() {
        EDGES.is("ask(0)", walker().ask(0), 0);
        EDGES.is("ask(11)", walker().ask(11), 0);
    }

    /** "(where there are none of these: 0)". */
    private static void askWhereThereAreNone() {
        WoodliceSenate x = walker(0, 9);
        EDGES.row("none", new long[] {x.wet(3), x.ask(3)}, 0, 0);
        WoodliceSenate y = Told.of("900", "gbu", FROST, 0, 0, FROST, 0, 0, FROST, 0, 0, FROST, 0, 0);
        y.seen(0, 0, 0);
        EDGES.row("one: it is alone in each hour", new long[] {y.wet(0), y.ask(0)}, 512, 0);
    }

    private static void askIs(String stone, String members, int[] seen, int place, int wet, int hour) {
        WoodliceSenate x = Told.of(stone, members);
        x.seen(seen[0], seen[1], seen[2]);
        EDGES.is("wet(" + place + ")", x.wet(place), wet);
        EDGES.is("ask(" + place + ")", x.ask(place), hour);
        int first = Integer.numberOfTrailingZeros(wet);
        // Of two that fit, they are alike behind each hour ahead of it, and not behind it.
        WoodliceSenate one = Told.of(with(stone, place, first), members);
        WoodliceSenate other = Told.of(with(stone, place, first + 1), members);
        for (int h = 0; h <= hour; h++) {
            EDGES.is("alike behind hour " + h, one.damp(h, place, 0) == other.damp(h, place, 0) ? 1 : 0,
                    h < hour ? 1 : 0);
        }
    }

    private static String with(String stone, int place, int damp) {
        StringBuilder all = new StringBuilder(stone);
        while (all.length() < 12) {
            all.append('5');
        }
        all.setCharAt(place, (char) ('0' + damp));
        return all.toString();
    }

    /** "the HOUR behind which the greatest number of those of WET by which it is as DAMP is least": 0 to 19. */
    private static void askFromFirstToLast() {
        askIs("", "gdu;odd;gbd;pdu;pdu", new int[] {6, 2, 2}, 2, 96, 6);
        askIs("", "pju;pju;gju", new int[] {6, 0, 3}, 8, 96, 18);
        askIs("076", "piu;piu;gju;piu", new int[] {4, 3, 4}, 7, 96, 19);
        // By frosts 0 to 6 become alike, one by one; by rain 7 to 9; so hour 0 stays the best.
        WoodliceSenate x = Told.of("", "", FROST, 1, 0, FROST, 2, 0, RAIN, 5, 0);
        EDGES.row("of like ones the least", new long[] {x.wet(4), x.ask(4)}, 1023, 0);
        WoodliceSenate y = Told.of("", "", FROST, 0, 0);
        EDGES.row("alike from hour 0 on", new long[] {y.wet(4), y.ask(4)}, 1023, 0);
    }

    /** 0 is a number as others are, and so is 9: where all are so, that is the greatest number. */
    private static void askWhereAllAreAlike() {
        WoodliceSenate x = Told.of("", "", FROST, 3, 0, FROST, 3, 0, FROST, 3, 0, FROST, 3, 0, FROST, 3, 0);
        EDGES.row("all 0 from hour 3 on", new long[] {x.damp(3, 4, 0), x.wet(4), x.ask(4)}, 0, 1023, 0);
        WoodliceSenate y = Told.of("", "", RAIN, 3, 0, RAIN, 3, 0, RAIN, 3, 0);
        EDGES.row("all 9 from hour 3 on", new long[] {y.damp(3, 4, 0), y.wet(4), y.ask(4)}, 9, 1023, 0);
        // All ten are alike behind each hour: of like ones the least.
        WoodliceSenate z = Told.of("", "", FROST, 0, 0, FROST, 0, 0, FROST, 0, 0, FROST, 0, 0, FROST, 0, 0);
        EDGES.row("all 0 from hour 0 on", new long[] {z.damp(0, 4, 0), z.wet(4), z.ask(4)}, 0, 1023, 0);
    }

    /** ASK, gone through by telling each of 0 to 9 in place of its own. */
    private static int askedByTelling(String stone, String members, int place, int... events) {
        int[][] alike = new int[20][10];
        for (int first = 0; first <= 9; first++) {
            WoodliceSenate x = Told.of(with(stone, place, first), members, events);
            for (int hour = 0; hour < 20; hour++) {
                alike[hour][x.damp(hour, place, 0)]++;
            }
        }
        int which = 0;
        for (int hour = 19; hour >= 0; hour--) {
            which = greatest(alike[hour]) <= greatest(alike[which]) ? hour : which;
        }
        return which;
    }

    private static int greatest(int[] numbers) {
        int most = 0;
        for (int number : numbers) {
            most = Math.max(most, number);
        }
        return most;
    }

    /** Stones by which one of 0 to 9, or how damp it came to be by them, makes the hour to ask another. */
    private static void askByAllFirsts() {
        String[] stones = {"709681232981", "000000000000", "710880681713", "432634330778"};
        String[] members = {"gbu;gau;gad", "ocd;ocd;pcu", "pfd;oeu;geu", "obu;pau;pcu"};
        for (int i = 0; i < stones.length; i++) {
            for (int place = 0; place < 12; place++) {
                EDGES.is(stones[i] + " " + members[i] + ": ask(" + place + ")",
                        Told.of(stones[i], members[i], RAIN, 4, 0).ask(place),
                        askedByTelling(stones[i], members[i], place, RAIN, 4, 0));
                EDGES.is(stones[i] + " " + members[i] + ": ask(" + place + "), no events",
                        Told.of(stones[i], members[i]).ask(place),
                        askedByTelling(stones[i], members[i], place));
            }
        }
    }
}
