/** Promise 38: the digest is the row of answers that the document tells, in its order. */
public final class DigestTest {
    private static final Due DUE = new Due();

    private long h;

    private DigestTest() {
    }

    public static void main(String[] args) {
        WoodliceSenate x = Told.of("5678", "gau;pfu", Told.LIFT, 1, 0, Told.RAIN, 5, 0);
        DUE.is("digest() as the document's own run has it", x.digest(), -3211604408333254100L);
        check(new WoodliceSenate());
        check(x);
        check(Told.of("31415", "pau;gbd;ocu;pcd;gdu;odu;pkd;glu", Told.PEPPER, 0, 3, Told.LIFT, 2, 0, Told.RAIN,
                4, 1, Told.FROST, 5, 0, Told.PEPPER, 8, 4, Told.LIFT, 9, 0, Told.PEPPER, 9, 9, Told.RAIN, 15, 0));
        check(Told.of("9x", "pau;", Told.PEPPER, 0, 3));
        WoodliceSenate seen = Told.of("0123", "gau", Told.PEPPER, 0, 0);
        seen.seen(0, 0, 1);
        check(seen);
        WoodliceSenate asked = Told.of("", "pdu;gdu;pdu");
        asked.seen(3, 0, 0);
        DUE.is("ask(2)", asked.ask(2), 6);
        check(asked);
        nearOnesDiffer();
        seen.lose(0);
        long before = seen.digest();
        seen.sheet(0, 0, 4);
        DUE.is("sheets are no part of it", seen.digest(), before);
        DUE.end();
    }

    /** One by which an hour, a place or a number beside those of the digest would make another digest. */
    private static void nearOnesDiffer() {
        WoodliceSenate x = Told.of("012345678909", "gau;gld;gkd", Told.FROST, 6, 0, Told.FROST, 7, 0, Told.FROST, 19,
                0, Told.PEPPER, 19, 10, Told.PEPPER, 9, 11, Told.PEPPER, 10, 11);
        for (int near : new int[] {5, 7}) {
            DUE.isTrue("damp(6) and " + near, x.damp(6, 9, 0) != x.damp(near, 9, 0));
            DUE.isTrue("heads of 6 and " + near, x.damp(6, 7, 1) != x.damp(near, 7, 1));
        }
        DUE.isTrue("damp(19) and 18", x.damp(19, 9, 0) != x.damp(18, 9, 0));
        DUE.isTrue("heads of 19 and 18", x.damp(19, 10, 1) != x.damp(18, 10, 1));
        DUE.isTrue("at(0) and at(1)", x.at(0, 0, 0) != x.at(1, 0, 0));
        DUE.isTrue("at(7) and at(6)", x.at(7, 0, 0) != x.at(6, 0, 0));
        DUE.isTrue("at(7) and at(8)", x.at(7, 0, 0) != x.at(8, 0, 0));
        DUE.isTrue("at(19) and at(18)", x.at(19, 2, 0) != x.at(18, 2, 0));
        DUE.isTrue("dust(8) and dust(7)", x.dust(8, 1) != x.dust(7, 1));
        DUE.isTrue("dust(8) and dust(9)", x.dust(8, 1) != x.dust(9, 1));
        for (int what = 0; what < 2; what++) {
            DUE.isTrue("chance(5, 9) and chance(5, 8)", x.chance(5, 9, what) != x.chance(5, 8, what));
            DUE.isTrue("chance(5, 9) and chance(5, 10)", x.chance(5, 9, what) != x.chance(5, 10, what));
        }
        DUE.isTrue("chance(5, 9) and chance(4, 9)", x.chance(5, 9, 0) != x.chance(4, 9, 0));
        DUE.isTrue("chance(5, 9) and chance(6, 9)", x.chance(5, 9, 0) != x.chance(6, 9, 0));
        check(x);
    }

    private static void check(WoodliceSenate x) {
        DUE.is("digest()", x.digest(), new DigestTest().gathered(x));
    }

    private void add(long answer) {
        h = 31 * h + answer;
    }

    private long gathered(WoodliceSenate x) {
        h = 17;
        for (int what = 0; what < 8; what++) {
            add(x.count(what));
        }
        add(x.fault(0));
        add(x.fault(1));
        for (int p = 0; p < 12; p++) {
            add(x.stone(p));
            add(x.damp(6, p, 0));
            add(x.damp(6, p, 1));
            add(x.damp(19, p, 0));
            add(x.damp(19, p, 1));
            add(x.wet(p));
            add(x.ask(p));
        }
        for (int m = 0; m < x.count(0); m++) {
            addMember(x, m);
        }
        for (int hour = 0; hour < 20; hour++) {
            for (int what = 0; what < 3; what++) {
                add(x.house(hour, what));
            }
        }
        add(x.governments());
        add(x.carried());
        for (int what = 0; what < 3; what++) {
            add(x.crowd(what));
        }
        add(x.orator());
        add(x.still());
        add(x.dust(8, 0));
        add(x.dust(8, 1));
        add(x.boy(0));
        add(x.boy(1));
        add(x.calm(-1));
        add(x.calm(0));
        add(x.never());
        add(x.chance(5, 9, 0));
        add(x.chance(5, 9, 1));
        add(x.ages(7, 6, 0));
        add(x.ages(7, 6, 1));
        return h;
    }

    private void addMember(WoodliceSenate x, int m) {
        for (int what = 0; what < 3; what++) {
            add(x.member(m, what));
        }
        for (int what = 0; what < 4; what++) {
            add(x.at(0, m, what));
        }
        for (int what = 0; what < 4; what++) {
            add(x.at(7, m, what));
        }
        for (int what = 0; what < 4; what++) {
            add(x.at(19, m, what));
        }
        add(x.seat(m, 0));
        add(x.seat(m, 1));
        add(x.sort(m));
    }
}
