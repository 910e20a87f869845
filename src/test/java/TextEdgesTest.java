/** Promises 1 to 7: each sentence that names a boundary of the texts, asked on it and just beyond it. */
public final class TextEdgesTest {
    private static final Edges EDGES = new Edges();
    private static final String FULL_STONE = "987654321098";
    private static final String FULL_MEMBERS = "pau;gbd;ocu;pdd;geu;ofd;pgu;gld";

    private TextEdgesTest() {
    }

    public static void main(String[] args) {
        aNewObject();
        twelveFigures();
        thirtyOneBytes();
        bytesOf0To255();
        textsOf0To1();
        aTextThatIsEmpty();
        figuresOf0To9();
        damp5AtLaterPlaces();
        placesOf0To11();
        sortsLettersAndWays();
        textsThatAreNotEnded();
        noNinthMember();
        aFaultIsAnEmptyText();
        membersOf0To7();
        whatOfAMember();
        EDGES.end();
    }

    private static WoodliceSenate full() {
        return Told.of(FULL_STONE, FULL_MEMBERS);
    }

    /** "A STONE as if empty, no MEMBERS, no EVENTS; all SHEETS are LOST." */
    private static void aNewObject() {
        WoodliceSenate x = new WoodliceSenate();
        for (int p = 0; p < 12; p++) {
            EDGES.is("new: stone(" + p + ")", x.stone(p), 5);
            EDGES.is("new: damp(0, " + p + ", 1)", x.damp(0, p, 1), 0);
        }
        EDGES.is("new: member(0, 0)", x.member(0, 0), -2);
        EDGES.is("new: back()", x.back(), -3);
        EDGES.is("new: count(8)", x.count(8), 0);
        for (int s = 0; s < 4; s++) {
            EDGES.is("new: read(" + s + ")", x.read(s), -11);
        }
        WoodliceSenate told = Told.of("1", "pau", Told.LIFT, 0, 0);
        told.seen(0, 0, 0);
        EDGES.unlike("new, and told", told, new WoodliceSenate());
        told = Told.of("1", "pau", Told.LIFT, 0, 0);
        told.seen(0, 0, 0);
        told.sheet(2, 1, 3);
        told.wipe(0);
        told.wipe(1);
        told.back();
        told.forget();
        told.lose(2);
        EDGES.alike("new, and what was told undone", told, new WoodliceSenate());
        told = new WoodliceSenate();
        told.sheet(0, 0, 0);
        EDGES.unlike("a lost sheet, and one of no items", told, new WoodliceSenate());
    }

    /** "THE STONE is a text of up to 12 figures": FULL behind them. */
    private static void twelveFigures() {
        WoodliceSenate x = Told.of("98765432109", "");
        EDGES.is("type(0) for the 12th", x.type(0, '8'), 12);
        EDGES.is("stone(11)", x.stone(11), 8);
        EDGES.is("fault(0) of 12", x.fault(0), -1);
        EDGES.is("type(0) for a 13th", x.type(0, '7'), -4);
        EDGES.is("count(2)", x.count(2), 12);
        EDGES.is("undo(0)", x.undo(0), 11);
        EDGES.is("type(0) where there is room again", x.type(0, '6'), 12);
        EDGES.is("stone(11) then", x.stone(11), 6);
        EDGES.refused("type(0, '7') when full", TextEdgesTest::full, y -> y.type(0, '7'), -4);
        EDGES.refused("type(0, 0) when full", () -> Told.of("xxxxxxxxxxxx", ""), y -> y.type(0, 0), -4);
        EDGES.refused("type(0, 256) when full: BAD first", TextEdgesTest::full, y -> y.type(0, 256), -2);
        EDGES.is("the other text has room", Told.of(FULL_STONE, "").type(1, 'p'), 1);
    }

    /** "MEMBERS are a text of up to 31 bytes (text 1)": FULL behind them. */
    private static void thirtyOneBytes() {
        WoodliceSenate x = Told.of("", FULL_MEMBERS.substring(0, 30));
        EDGES.is("count(3)", x.count(3), 30);
        EDGES.is("type(1) for the 31st", x.type(1, 'u'), 31);
        EDGES.is("member(7, 2)", x.member(7, 2), 1);
        EDGES.is("type(1) for a 32nd", x.type(1, ';'), -4);
        EDGES.is("count(3)", x.count(3), 31);
        EDGES.is("undo(1)", x.undo(1), 30);
        EDGES.is("type(1) where there is room again", x.type(1, 'd'), 31);
        EDGES.is("member(7, 2) then", x.member(7, 2), 0);
        EDGES.refused("type(1, ';') when full", TextEdgesTest::full, y -> y.type(1, ';'), -4);
        EDGES.refused("type(1, -1) when full: BAD first", TextEdgesTest::full, y -> y.type(1, -1), -2);
        EDGES.is("the other text has room", Told.of("", FULL_MEMBERS).type(0, '1'), 1);
    }

    /** "A byte (0 to 255) comes behind a text". */
    private static void bytesOf0To255() {
        for (int text = 0; text < 2; text++) {
            int t = text;
            WoodliceSenate x = new WoodliceSenate();
            EDGES.is("type(" + t + ", 0)", x.type(t, 0), 1);
            EDGES.is("type(" + t + ", 255)", x.type(t, 255), 2);
            for (int b : new int[] {-1, 256, 256 + '1', '1' - 256, Edges.LEAST, Edges.MOST}) {
                EDGES.refused("type(" + t + ", " + b + ")", () -> Told.of("12", "pau"), y -> y.type(t, b), -2);
            }
        }
    }

    /** Texts are 0 and 1: BAD of others. */
    private static void textsOf0To1() {
        for (int t : new int[] {-1, 2, Edges.LEAST, Edges.MOST}) {
            EDGES.refused("type(" + t + ", '1')", TextEdgesTest::full, x -> x.type(t, '1'), -2);
            EDGES.refused("wipe(" + t + ")", TextEdgesTest::full, x -> x.wipe(t), -2);
            EDGES.refused("undo(" + t + ")", TextEdgesTest::full, x -> x.undo(t), -2);
            EDGES.refused("fault(" + t + ")", TextEdgesTest::full, x -> x.fault(t), -2);
            EDGES.refused("undo(" + t + ") of a new one", WoodliceSenate::new, x -> x.undo(t), -2);
        }
        WoodliceSenate x = full();
        EDGES.is("wipe(0)", x.wipe(0), 12);
        EDGES.is("the other is as it was", x.count(3), 31);
        EDGES.is("wipe(1)", x.wipe(1), 31);
        EDGES.is("of both none is left", x.count(2) + x.count(3), 0);
        x = full();
        EDGES.is("wipe(1) first", x.wipe(1), 31);
        EDGES.is("the other is as it was", x.count(2), 12);
    }

    /** "undo: NOT: it is empty", "wipe: how many bytes it had". */
    private static void aTextThatIsEmpty() {
        for (int text = 0; text < 2; text++) {
            int t = text;
            EDGES.refused("undo(" + t + ") of an empty one", WoodliceSenate::new, x -> x.undo(t), -3);
            WoodliceSenate x = new WoodliceSenate();
            EDGES.is("wipe(" + t + ") of an empty one", x.wipe(t), 0);
            x.type(t, 'x');
            EDGES.is("undo(" + t + ") of one byte", x.undo(t), 0);
            EDGES.is("fault(" + t + ") of what is empty again", x.fault(t), -1);
            EDGES.is("undo(" + t + ") of none", x.undo(t), -3);
            x.type(t, 'x');
            EDGES.is("wipe(" + t + ") of one byte", x.wipe(t), 1);
            EDGES.is("undo(" + t + ") of what was wiped", x.undo(t), -3);
            EDGES.is("wipe(" + t + ") again", x.wipe(t), 0);
            EDGES.is("type(" + t + ") behind it", x.type(t, 'x'), 1);
        }
    }

    private static int faultOf(int text, String bytes) {
        return text == 0 ? Told.of(bytes, "").fault(0) : Told.of("", bytes).fault(1);
    }

    /** "figures 0 to 9", at the first place and at the last. */
    private static void figuresOf0To9() {
        for (int b = 0; b < 256; b++) {
            boolean figure = b >= 48 && b <= 57;
            EDGES.is("fault(0) of byte " + b, faultOf(0, "" + (char) b), figure ? -1 : 0);
            WoodliceSenate x = Told.of("00000000000" + (char) b, "");
            EDGES.is("fault(0) of byte " + b + " behind 11", x.fault(0), figure ? -1 : 11);
            EDGES.is("stone(11) of byte " + b, x.stone(11), figure ? b - 48 : 5);
            EDGES.is("stone(0) then", x.stone(0), figure ? 0 : 5);
        }
        EDGES.is("the first of two faults", faultOf(0, "1//"), 1);
    }

    /** "5 at later ones". */
    private static void damp5AtLaterPlaces() {
        for (int n = 0; n <= 12; n++) {
            WoodliceSenate x = Told.of("9".repeat(n), "");
            for (int p = 0; p < 12; p++) {
                EDGES.is(n + " figures: stone(" + p + ")", x.stone(p), p < n ? 9 : 5);
                EDGES.is(n + " figures: damp(0, " + p + ", 0)", x.damp(0, p, 0), p < n ? 9 : 5);
            }
            EDGES.is(n + " figures: count(6)", x.count(6), n);
        }
    }

    /** "PLACES 0 to 11": BAD of others. */
    private static void placesOf0To11() {
        EDGES.is("stone(0)", full().stone(0), 9);
        EDGES.is("stone(11)", full().stone(11), 8);
        for (int p : new int[] {-1, 12, Edges.LEAST, Edges.MOST}) {
            EDGES.refused("stone(" + p + ")", TextEdgesTest::full, x -> x.stone(p), -2);
        }
    }

    /** "p (pale), g (grey) or o (old), a letter a to l, and u (UPRIGHT) or d", "with ; between them". */
    private static void sortsLettersAndWays() {
        for (int b = 0; b < 256; b++) {
            char c = (char) b;
            EDGES.is("byte " + b + " as a sort", faultOf(1, c + "au"), "pgo".indexOf(c) >= 0 ? -1 : 0);
            EDGES.is("byte " + b + " as a letter", faultOf(1, "p" + c + "u"), c >= 'a' && c <= 'l' ? -1 : 1);
            EDGES.is("byte " + b + " as a way", faultOf(1, "pa" + c), c == 'u' || c == 'd' ? -1 : 2);
            EDGES.is("byte " + b + " between", faultOf(1, "pau" + c + "gbd"), c == ';' ? -1 : 3);
            EDGES.is("byte " + b + " as the last one's", faultOf(1, FULL_MEMBERS.substring(0, 30) + c),
                    c == 'u' || c == 'd' ? -1 : 30);
        }
        WoodliceSenate x = Told.of("", "pau;gld;oku");
        EDGES.row("the first, the last letter", new long[] {x.member(0, 0), x.member(0, 1), x.member(0, 2),
            x.member(1, 0), x.member(1, 1), x.member(1, 2), x.member(2, 0)}, 0, 0, 1, 1, 11, 0, 2);
        EDGES.is("a ; ahead", faultOf(1, ";pau"), 0);
        EDGES.is("two of them", faultOf(1, "pau;;gbd"), 4);
        EDGES.is("a fault ahead of what is well", faultOf(1, "pmu;gbd"), 1);
        EDGES.is("the first of two faults", faultOf(1, "pau;gmx"), 5);
    }

    /** "an empty one is well; of one that is not ended, its end". */
    private static void textsThatAreNotEnded() {
        for (int n = 0; n <= 31; n++) {
            WoodliceSenate x = Told.of("", FULL_MEMBERS.substring(0, n));
            boolean well = n == 0 || n % 4 == 3;
            EDGES.is("fault(1) of " + n + " bytes", x.fault(1), well ? -1 : n);
            EDGES.is("count(0) of " + n + " bytes", x.count(0), well ? (n + 1) / 4 : 0);
        }
        for (int n = 0; n <= 12; n++) {
            EDGES.is("fault(0) of " + n + " bytes", faultOf(0, FULL_STONE.substring(0, n)), -1);
        }
    }

    /** "here also of the first byte of a ninth": its ; has no room, so eight stay well. */
    private static void noNinthMember() {
        WoodliceSenate x = full();
        EDGES.is("fault(1) of eight", x.fault(1), -1);
        EDGES.is("type(1, ';')", x.type(1, ';'), -4);
        EDGES.is("type(1, 'p')", x.type(1, 'p'), -4);
        EDGES.is("fault(1) behind that", x.fault(1), -1);
        EDGES.is("count(0) behind that", x.count(0), 8);
    }

    /** "With a FAULT a text is as if it was empty", the other is as it is. */
    private static void aFaultIsAnEmptyText() {
        WoodliceSenate x = Told.of("98x", "pau;gbd");
        EDGES.row("a fault in the stone", new long[] {x.stone(0), x.damp(0, 1, 0), x.count(6), x.count(2),
            x.count(0)}, 5, 5, 0, 3, 2);
        EDGES.is("undo(0)", x.undo(0), 2);
        EDGES.row("it is undone", new long[] {x.stone(0), x.damp(0, 1, 0), x.count(6)}, 9, 8, 2);
        x.type(1, ';');
        EDGES.row("a fault in the members", new long[] {x.count(0), x.count(3), x.member(0, 0), x.at(0, 0, 0),
            x.damp(0, 0, 1), x.crowd(0), x.orator(), x.still(), x.carried(), x.house(0, 1), x.seat(0, 0), x.sort(0),
            x.stone(0)}, 0, 8, -2, -2, 0, -1, -1, 0, 0, 0, -2, -2, 9);
        x.undo(1);
        EDGES.row("it is undone", new long[] {x.count(0), x.member(1, 1), x.house(0, 1), x.still()}, 2, 1, 1, 3);
        x.type(1, ';');
        EDGES.is("wipe(1) of one with a fault", x.wipe(1), 8);
        EDGES.is("fault(1)", x.fault(1), -1);
    }

    /** "MEMBERS, 8 at most (0 on)": BAD of one that there is not. */
    private static void membersOf0To7() {
        EDGES.is("member(7, 1) of eight", full().member(7, 1), 11);
        EDGES.refused("member(8, 1) of eight", TextEdgesTest::full, x -> x.member(8, 1), -2);
        EDGES.is("member(0, 1) of one", Told.of("", "plu").member(0, 1), 11);
        EDGES.refused("member(1, 1) of one", () -> Told.of("", "plu"), x -> x.member(1, 1), -2);
        EDGES.refused("member(0, 1) of none", WoodliceSenate::new, x -> x.member(0, 1), -2);
        EDGES.refused("member(0, 1) with a fault", () -> Told.of("", "plu;"), x -> x.member(0, 1), -2);
        for (int m : new int[] {-1, Edges.LEAST, Edges.MOST}) {
            EDGES.refused("member(" + m + ", 0)", TextEdgesTest::full, x -> x.member(m, 0), -2);
        }
    }

    /** "what = 0", "(1)", "(2: 1, 0)": BAD of others. */
    private static void whatOfAMember() {
        EDGES.is("member(2, 0)", full().member(2, 0), 2);
        EDGES.is("member(2, 2) of an upright one", full().member(2, 2), 1);
        EDGES.is("member(1, 2) of one on its back", full().member(1, 2), 0);
        for (int what : new int[] {-1, 3, Edges.LEAST, Edges.MOST}) {
            EDGES.refused("member(0, " + what + ")", TextEdgesTest::full, x -> x.member(0, what), -2);
        }
    }
}
