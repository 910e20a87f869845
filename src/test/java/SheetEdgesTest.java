/** Promises 31 to 36: each sentence that names a boundary of the sheets, asked on it and just beyond it. */
public final class SheetEdgesTest {
    private static final Edges EDGES = new Edges();
    private static final int NULL = Edges.NULL, INDEX = Edges.INDEX, CAST = Edges.CAST, STORE = Edges.STORE;
    private static final int SIZE = Edges.SIZE, LEAST = Edges.LEAST, MOST = Edges.MOST;
    private static final int[] NO_SHEETS = {-1, 4, LEAST, MOST};
    private static final int[] NO_FORMS = {-1, 3, LEAST, MOST};

    private SheetEdgesTest() {
    }

    public static void main(String[] args) {
        sheetsOf0To3();
        formsOf0To2();
        itemsOf0To60();
        aNewRow();
        badAheadOfSize();
        losing();
        putInOrder();
        putTheLastItem();
        bytes();
        shorts();
        ints();
        getInOrder();
        theLeastIntAsAnItem();
        copyInOrder();
        copyToTheEnds();
        copyNone();
        copyWithinOne();
        copyFormsOfAll();
        writeTwelveAtMost();
        writeOfHours();
        writeRefused();
        EDGES.end();
    }

    /** Sheet 0: bytes 10 to 15; 1: three shorts; 2: ints, none; 3: lost. The latest finding is SIZE. */
    private static WoodliceSenate some() {
        WoodliceSenate x = Told.of("0123", "gau;pbd;old", Told.LIFT, 3, 0);
        Told.fill(x, 0, 0, 10, 11, 12, 13, 14, 15);
        Told.fill(x, 1, 1, 1000, -1000, 77);
        x.sheet(2, 2, 0);
        x.sheet(3, 0, -1);
        return x;
    }

    private static void itemsAre(String call, WoodliceSenate x, int s, int form, long... want) {
        long[] got = new long[want.length];
        for (int i = 0; i < want.length; i++) {
            got[i] = x.get(s, form, i);
        }
        EDGES.row(call + ": items of " + s, got, want);
        EDGES.is(call + ": an item behind them", x.get(s, form, want.length), LEAST);
    }

    /** "SHEETS 0 .. 3": BAD of others, whatever else is wrong. */
    private static void sheetsOf0To3() {
        WoodliceSenate x = new WoodliceSenate();
        for (int s = 0; s < 4; s++) {
            EDGES.is("sheet(" + s + ", " + s % 3 + ", " + (s + 1) + ")", x.sheet(s, s % 3, s + 1), s + 1);
        }
        for (int s = 0; s < 4; s++) {
            EDGES.is("lose(" + s + ")", x.lose(s), s + 1);
        }
        for (int s : NO_SHEETS) {
            EDGES.refused("sheet(" + s + ", 0, 1)", SheetEdgesTest::some, y -> y.sheet(s, 0, 1), -2);
            EDGES.refused("lose(" + s + ")", SheetEdgesTest::some, y -> y.lose(s), -2);
            EDGES.refused("put(" + s + ", 0, 0, 1)", SheetEdgesTest::some, y -> y.put(s, 0, 0, 1), -2);
            EDGES.refused("get(" + s + ", 0, 0)", SheetEdgesTest::some, y -> y.get(s, 0, 0), LEAST);
            EDGES.refused("copy(" + s + ", 0, 0, 0, 1)", SheetEdgesTest::some, y -> y.copy(s, 0, 0, 0, 1), -2);
            EDGES.refused("copy(0, 0, " + s + ", 0, 1)", SheetEdgesTest::some, y -> y.copy(0, 0, s, 0, 1), -2);
            EDGES.refused("copy(3, -1, " + s + ", -1, -1)", SheetEdgesTest::some, y -> y.copy(3, -1, s, -1, -1), -2);
            EDGES.refused("copy(" + s + ", -1, 3, -1, -1)", SheetEdgesTest::some, y -> y.copy(s, -1, 3, -1, -1), -2);
            EDGES.refused("write(0, " + s + ")", SheetEdgesTest::some, y -> y.write(0, s), -2);
        }
    }

    /** "a FORM: 0 bytes, 1 shorts, 2 ints": BAD of others, ahead of NULL. */
    private static void formsOf0To2() {
        for (int form : NO_FORMS) {
            EDGES.refused("sheet(0, " + form + ", 1)", SheetEdgesTest::some, x -> x.sheet(0, form, 1), -2);
            EDGES.refused("put(0, " + form + ", 0, 1)", SheetEdgesTest::some, x -> x.put(0, form, 0, 1), -2);
            EDGES.refused("get(0, " + form + ", 0)", SheetEdgesTest::some, x -> x.get(0, form, 0), LEAST);
            EDGES.refused("put(3, " + form + ", 0, 1) of a lost one", SheetEdgesTest::some,
                    x -> x.put(3, form, 0, 1), -2);
            EDGES.refused("get(3, " + form + ", 0) of a lost one", SheetEdgesTest::some, x -> x.get(3, form, 0), LEAST);
        }
    }

    /** "of 0 to 60 items": above them BAD, below them SIZE. */
    private static void itemsOf0To60() {
        for (int form = 0; form < 3; form++) {
            int f = form;
            WoodliceSenate x = some();
            EDGES.is("sheet(0, " + f + ", 60)", x.sheet(0, f, 60), 60);
            EDGES.is("put(0, " + f + ", 59, 1)", x.put(0, f, 59, 1), 1);
            EDGES.is("put(0, " + f + ", 60, 1)", x.put(0, f, 60, 1), -12);
            EDGES.is("sheet(0, " + f + ", 0)", x.sheet(0, f, 0), 0);
            EDGES.is("put(0, " + f + ", 0, 1)", x.put(0, f, 0, 1), -12);
            EDGES.is("lose(0)", x.lose(0), 0);
            for (int n : new int[] {61, MOST}) {
                EDGES.refused("sheet(0, " + f + ", " + n + ")", SheetEdgesTest::some, y -> y.sheet(0, f, n), -2);
            }
            for (int n : new int[] {-1, LEAST}) {
                EDGES.finds("sheet(0, " + f + ", " + n + ")", SheetEdgesTest::some, y -> y.sheet(0, f, n), SIZE);
            }
        }
        EDGES.finds("sheet(3, 0, -1) of a lost one", WoodliceSenate::new, y -> y.sheet(3, 0, -1), SIZE);
    }

    /** "(0 at first)", also where a row was. */
    private static void aNewRow() {
        WoodliceSenate x = some();
        itemsAre("as it was", x, 0, 0, 10, 11, 12, 13, 14, 15);
        EDGES.is("sheet(0, 0, 6)", x.sheet(0, 0, 6), 6);
        itemsAre("a new one", x, 0, 0, 0, 0, 0, 0, 0, 0);
        x = some();
        x.sheet(0, 0, 2);
        x.sheet(0, 0, 6);
        itemsAre("a short one, a long one", x, 0, 0, 0, 0, 0, 0, 0, 0);
        x = some();
        x.lose(0);
        x.sheet(0, 0, 6);
        itemsAre("a lost one, a new one", x, 0, 0, 0, 0, 0, 0, 0, 0);
    }

    /** "BAD: SHEET, FORM, above 60; SIZE": in that order. */
    private static void badAheadOfSize() {
        EDGES.refused("sheet(4, 0, -1)", SheetEdgesTest::some, x -> x.sheet(4, 0, -1), -2);
        EDGES.refused("sheet(0, 3, -1)", SheetEdgesTest::some, x -> x.sheet(0, 3, -1), -2);
    }

    /** "how many items it had. BAD; NULL": one of no items is not LOST. */
    private static void losing() {
        EDGES.finds("lose(3) of a lost one", SheetEdgesTest::some, x -> x.lose(3), NULL);
        EDGES.finds("lose(0) of a new object", WoodliceSenate::new, x -> x.lose(0), NULL);
        WoodliceSenate x = some();
        EDGES.row("lose(0), lose(2)", new long[] {x.lose(0), x.lose(2), x.count(8)}, 6, 0, 5);
        EDGES.row("both again", new long[] {x.lose(0), x.lose(2), x.count(8)}, -11, -11, 1);
        EDGES.is("lose(1): the others are as they were", x.lose(1), 3);
    }

    /** "BAD; NULL; CAST; INDEX": the first that fits. */
    private static void putInOrder() {
        EDGES.finds("put(3, 0, -1, 1): lost, no such item", SheetEdgesTest::some, x -> x.put(3, 0, -1, 1), NULL);
        EDGES.finds("put(0, 1, 6, 1): another form, no such item", SheetEdgesTest::some, x -> x.put(0, 1, 6, 1), CAST);
        EDGES.finds("put(0, 2, -1, 1): another form, below 0", SheetEdgesTest::some, x -> x.put(0, 2, -1, 1), CAST);
        EDGES.finds("put(0, 1, 0, 1)", SheetEdgesTest::some, x -> x.put(0, 1, 0, 1), CAST);
        EDGES.finds("put(1, 0, 0, 1)", SheetEdgesTest::some, x -> x.put(1, 0, 0, 1), CAST);
        EDGES.finds("put(2, 2, 0, 1) of no items", SheetEdgesTest::some, x -> x.put(2, 2, 0, 1), INDEX);
    }

    private static void putTheLastItem() {
        WoodliceSenate x = some();
        EDGES.row("the first, the last", new long[] {x.put(0, 0, 0, 1), x.put(0, 0, 5, 2), x.count(8)}, 1, 1, 5);
        itemsAre("the first, the last", x, 0, 0, 1, 11, 12, 13, 14, 2);
        for (int i : new int[] {-1, 6, 59, 60, LEAST, MOST}) {
            EDGES.finds("put(0, 0, " + i + ", 1)", SheetEdgesTest::some, y -> y.put(0, 0, i, 1), INDEX);
        }
    }

    private static void puts(int form, int v, int want) {
        WoodliceSenate x = new WoodliceSenate();
        x.sheet(1, form, 1);
        EDGES.is("put(1, " + form + ", 0, " + v + ")", x.put(1, form, 0, v), 1);
        EDGES.is("get(1, " + form + ", 0) behind " + v, x.get(1, form, 0), want);
    }

    /** "the lowest bits that it has, with its sign". */
    private static void bytes() {
        puts(0, 0, 0);
        puts(0, 127, 127);
        puts(0, 128, -128);
        puts(0, 255, -1);
        puts(0, 256, 0);
        puts(0, -1, -1);
        puts(0, -128, -128);
        puts(0, -129, 127);
        puts(0, MOST, -1);
        puts(0, LEAST, 0);
    }

    private static void shorts() {
        puts(1, 128, 128);
        puts(1, 32767, 32767);
        puts(1, 32768, -32768);
        puts(1, 65535, -1);
        puts(1, 65536, 0);
        puts(1, -32768, -32768);
        puts(1, -32769, 32767);
        puts(1, MOST, -1);
        puts(1, LEAST, 0);
    }

    private static void ints() {
        puts(2, 32768, 32768);
        puts(2, 65536, 65536);
        puts(2, -1, -1);
        puts(2, MOST, MOST);
        puts(2, LEAST, LEAST);
    }

    private static void getFinds(int s, int form, int i, int finding) {
        EDGES.findsBy("get(" + s + ", " + form + ", " + i + ")", SheetEdgesTest::some, x -> x.get(s, form, i), LEAST,
                finding);
    }

    /** "BAD: the least int; so are NULL, CAST, INDEX (count() 8 tells)". */
    private static void getInOrder() {
        WoodliceSenate x = some();
        EDGES.row("the first, the last", new long[] {x.get(0, 0, 0), x.get(0, 0, 5), x.get(1, 1, 2), x.count(8)},
                10, 15, 77, 5);
        getFinds(0, 0, -1, INDEX);
        getFinds(0, 0, 6, INDEX);
        getFinds(0, 0, LEAST, INDEX);
        getFinds(0, 0, MOST, INDEX);
        getFinds(2, 2, 0, INDEX);
        getFinds(0, 1, 0, CAST);
        getFinds(0, 1, 6, CAST);
        getFinds(1, 2, -1, CAST);
        getFinds(3, 0, 0, NULL);
        getFinds(3, 2, -1, NULL);
    }

    /** An item may be the least int: count(8) tells that it is no finding. */
    private static void theLeastIntAsAnItem() {
        WoodliceSenate x = new WoodliceSenate();
        Told.fill(x, 0, 2, LEAST);
        EDGES.row("the least int as told", new long[] {x.get(0, 2, 0), x.count(8)}, LEAST, 0);
        EDGES.row("the least int as a finding", new long[] {x.get(0, 2, 1), x.count(8)}, LEAST, 2);
    }

    private static void copyFinds(int s, int i, int t, int j, int n, int finding) {
        EDGES.finds("copy(" + s + ", " + i + ", " + t + ", " + j + ", " + n + ")", SheetEdgesTest::two,
                x -> x.copy(s, i, t, j, n), finding);
    }

    /** As some(), but sheet 1 is of three bytes, and 2 of three shorts. */
    private static WoodliceSenate two() {
        WoodliceSenate x = some();
        Told.fill(x, 1, 0, 1, 2, 3);
        Told.fill(x, 2, 1, 7, 8, 9);
        return x;
    }

    /** "BAD: the SHEETS; NULL: s, t; STORE; INDEX": the first that fits. */
    private static void copyInOrder() {
        copyFinds(3, 0, 0, 0, 1, NULL);
        copyFinds(0, 0, 3, 0, 1, NULL);
        copyFinds(3, 0, 3, 0, 0, NULL);
        copyFinds(3, -1, 2, -1, -1, NULL);
        copyFinds(2, -1, 3, -1, -1, NULL);
        copyFinds(0, 0, 2, 0, 1, STORE);
        copyFinds(2, 0, 0, 0, 0, STORE);
        copyFinds(0, -1, 2, -1, -1, STORE);
        copyFinds(0, 99, 2, 99, 99, STORE);
        copyFinds(0, -1, 1, 0, 1, INDEX);
        copyFinds(0, 0, 1, -1, 1, INDEX);
        copyFinds(0, 0, 1, 0, -1, INDEX);
        copyFinds(0, LEAST, 1, 0, 1, INDEX);
        copyFinds(0, 0, 1, LEAST, 1, INDEX);
        copyFinds(0, 0, 1, 0, LEAST, INDEX);
    }

    /** "not so many there". */
    private static void copyToTheEnds() {
        WoodliceSenate x = two();
        EDGES.is("copy(0, 3, 1, 0, 3): to both ends", x.copy(0, 3, 1, 0, 3), 1);
        itemsAre("to both ends", x, 1, 0, 13, 14, 15);
        itemsAre("from there", x, 0, 0, 10, 11, 12, 13, 14, 15);
        x = two();
        EDGES.is("copy(1, 0, 0, 3, 3): the other way", x.copy(1, 0, 0, 3, 3), 1);
        itemsAre("the other way", x, 0, 0, 10, 11, 12, 1, 2, 3);
        x = two();
        EDGES.is("copy(0, 5, 1, 2, 1): the last ones", x.copy(0, 5, 1, 2, 1), 1);
        itemsAre("the last ones", x, 1, 0, 1, 2, 15);
        copyFinds(0, 4, 1, 0, 3, INDEX);
        copyFinds(0, 6, 1, 0, 1, INDEX);
        copyFinds(0, 0, 1, 0, 4, INDEX);
        copyFinds(0, 0, 1, 1, 3, INDEX);
        copyFinds(0, 0, 1, 3, 1, INDEX);
        copyFinds(1, 0, 0, 0, 4, INDEX);
        copyFinds(1, 0, 0, 4, 3, INDEX);
        copyFinds(0, 0, 1, 0, MOST, INDEX);
        copyFinds(0, MOST, 1, 0, 1, INDEX);
        copyFinds(0, 1, 1, 0, MOST, INDEX);
        copyFinds(0, MOST, 1, MOST, MOST, INDEX);
    }

    /** "(of n 0, too: i or j above the size)". */
    private static void copyNone() {
        WoodliceSenate x = two();
        EDGES.row("none", new long[] {x.copy(0, 0, 1, 0, 0), x.copy(0, 6, 1, 0, 0), x.copy(0, 0, 1, 3, 0),
            x.copy(0, 6, 1, 3, 0), x.copy(0, 6, 0, 6, 0), x.count(8)}, 1, 1, 1, 1, 1, 5);
        copyFinds(0, 7, 1, 0, 0, INDEX);
        copyFinds(0, 0, 1, 4, 0, INDEX);
        copyFinds(0, -1, 1, 0, 0, INDEX);
        copyFinds(0, 0, 1, -1, 0, INDEX);
        copyFinds(0, MOST, 1, 0, 0, INDEX);
        x = some();
        EDGES.is("copy(2, 0, 2, 0, 0) of no items", x.copy(2, 0, 2, 0, 0), 1);
        EDGES.is("copy(2, 1, 2, 0, 0) of no items", x.copy(2, 1, 2, 0, 0), -12);
    }

    /** "(perhaps s, as they were)": as they were ahead of the copy. */
    private static void copyWithinOne() {
        WoodliceSenate x = two();
        EDGES.is("copy(0, 0, 0, 1, 5)", x.copy(0, 0, 0, 1, 5), 1);
        itemsAre("one on", x, 0, 0, 10, 10, 11, 12, 13, 14);
        x = two();
        EDGES.is("copy(0, 1, 0, 0, 5)", x.copy(0, 1, 0, 0, 5), 1);
        itemsAre("one back", x, 0, 0, 11, 12, 13, 14, 15, 15);
        x = two();
        EDGES.is("copy(0, 0, 0, 0, 6)", x.copy(0, 0, 0, 0, 6), 1);
        itemsAre("where it was", x, 0, 0, 10, 11, 12, 13, 14, 15);
        copyFinds(0, 0, 0, 1, 6, INDEX);
        copyFinds(0, 1, 0, 0, 6, INDEX);
    }

    private static void copyFormsOfAll() {
        for (int form = 0; form < 3; form++) {
            for (int other = 0; other < 3; other++) {
                WoodliceSenate x = new WoodliceSenate();
                x.sheet(1, form, 60);
                x.sheet(3, other, 60);
                x.put(1, form, 59, 100);
                EDGES.is("copy of form " + form + " to " + other, x.copy(1, 0, 3, 0, 60), form == other ? 1 : -14);
                EDGES.is("its last item", x.get(3, other, 59), form == other ? 100 : 0);
            }
        }
    }

    /** "as many as there are items, 12 at most: how many". */
    private static void writeTwelveAtMost() {
        for (int form = 0; form < 3; form++) {
            for (int n : new int[] {0, 1, 11, 12, 13, 60}) {
                WoodliceSenate x = Told.of("987654321098", "");
                x.sheet(3, form, n);
                for (int i = 0; i < n; i++) {
                    x.put(3, form, i, -7);
                }
                EDGES.is("write(0, 3) of " + n + " items", x.write(0, 3), Math.min(n, 12));
                long[] want = new long[n];
                for (int i = 0; i < n; i++) {
                    want[i] = i < 12 ? (19 - i) % 10 : -7;
                }
                itemsAre("write(0, 3) of " + n + " items", x, 3, form, want);
            }
        }
    }

    private static void writeOfHours() {
        WoodliceSenate x = Told.of("9", "", Told.FROST, 0, 0, Told.FROST, 19, 0);
        x.sheet(0, 0, 1);
        EDGES.row("write(0, 0)", new long[] {x.write(0, 0), x.get(0, 0, 0)}, 1, 7);
        EDGES.row("write(18, 0)", new long[] {x.write(18, 0), x.get(0, 0, 0)}, 1, 7);
        EDGES.row("write(19, 0)", new long[] {x.write(19, 0), x.get(0, 0, 0)}, 1, 5);
    }

    /** "BAD; NULL". */
    private static void writeRefused() {
        for (int hour : new int[] {-1, 20, LEAST, MOST}) {
            EDGES.refused("write(" + hour + ", 0)", SheetEdgesTest::some, x -> x.write(hour, 0), -2);
            EDGES.refused("write(" + hour + ", 3): BAD ahead of NULL", SheetEdgesTest::some, x -> x.write(hour, 3), -2);
        }
        EDGES.finds("write(0, 3) of a lost one", SheetEdgesTest::some, x -> x.write(0, 3), NULL);
        EDGES.finds("write(19, 0) of a new object", WoodliceSenate::new, x -> x.write(19, 0), NULL);
    }
}
