/** Promises 31 to 37: sheets, what is written to them, counts and findings. */
public final class SheetsTest {
    private static final Due DUE = new Due();
    private static final int LEAST = Integer.MIN_VALUE;

    private SheetsTest() {
    }

    public static void main(String[] args) {
        sheet();
        lose();
        put();
        get();
        copy();
        copyWithinOne();
        copyRefused();
        write();
        count();
        DUE.end();
    }

    private static void sheet() {
        WoodliceSenate x = new WoodliceSenate();
        DUE.is("sheet(-1, 0, 1)", x.sheet(-1, 0, 1), -2);
        DUE.is("sheet(4, 0, 1)", x.sheet(4, 0, 1), -2);
        DUE.is("sheet(0, -1, 1)", x.sheet(0, -1, 1), -2);
        DUE.is("sheet(0, 3, 1)", x.sheet(0, 3, 1), -2);
        DUE.is("sheet(0, 0, 61)", x.sheet(0, 0, 61), -2);
        DUE.is("sheet(0, 3, -1): BAD ahead of SIZE", x.sheet(0, 3, -1), -2);
        DUE.is("count(8)", x.count(8), 0);
        DUE.is("sheet(0, 0, -1)", x.sheet(0, 0, -1), -15);
        DUE.is("count(8) of SIZE", x.count(8), 5);
        DUE.is("lose(0): it is lost as it was", x.lose(0), -11);
        DUE.is("sheet(0, 0, 60)", x.sheet(0, 0, 60), 60);
        DUE.is("get(0, 0, 59)", x.get(0, 0, 59), 0);
        DUE.is("put(0, 0, 59, 7)", x.put(0, 0, 59, 7), 1);
        DUE.is("put(0, 0, 0, 6)", x.put(0, 0, 0, 6), 1);
        DUE.is("sheet(0, 0, 61) changes nothing", x.sheet(0, 0, 61), -2);
        DUE.is("sheet(0, 1, -7) changes nothing", x.sheet(0, 1, -7), -15);
        DUE.is("get(0, 0, 59)", x.get(0, 0, 59), 7);
        DUE.is("sheet(0, 2, 60): a new row", x.sheet(0, 2, 60), 60);
        DUE.is("get(0, 2, 59) of a new row", x.get(0, 2, 59), 0);
        DUE.is("get(0, 2, 0) of a new row", x.get(0, 2, 0), 0);
        DUE.is("sheet(3, 1, 0)", x.sheet(3, 1, 0), 0);
        DUE.is("lose(3): none, but not lost", x.lose(3), 0);
    }

    private static void lose() {
        WoodliceSenate x = new WoodliceSenate();
        DUE.is("lose(-1)", x.lose(-1), -2);
        DUE.is("lose(4)", x.lose(4), -2);
        DUE.is("count(8)", x.count(8), 0);
        Told.fill(x, 1, 2, 5, 6, 7);
        DUE.is("lose(1)", x.lose(1), 3);
        DUE.is("lose(1) again", x.lose(1), -11);
        DUE.is("count(8) of NULL", x.count(8), 1);
        DUE.is("put(1) of a lost one", x.put(1, 2, 0, 5), -11);
    }

    private static void put() {
        WoodliceSenate x = new WoodliceSenate();
        x.sheet(0, 0, 3);
        x.sheet(1, 1, 3);
        x.sheet(2, 2, 3);
        int[][] put = {{0, 127, 127}, {0, 128, -128}, {0, 255, -1}, {0, -129, 127}, {0, 65536, 0},
            {1, 32767, 32767}, {1, 32768, -32768}, {1, -32769, 32767}, {1, 70000, 4464},
            {2, 2147483647, 2147483647}, {2, LEAST, LEAST}, {2, 70000, 70000}};
        for (int[] p : put) {
            DUE.is("put(" + p[0] + ", " + p[0] + ", 2, " + p[1] + ")", x.put(p[0], p[0], 2, p[1]), 1);
            DUE.is("get(" + p[0] + ", " + p[0] + ", 2)", x.get(p[0], p[0], 2), p[2]);
        }
        DUE.is("put(4, 0, 0, 0)", x.put(4, 0, 0, 0), -2);
        DUE.is("put(-1, 0, 0, 0)", x.put(-1, 0, 0, 0), -2);
        DUE.is("put(0, 3, 0, 0)", x.put(0, 3, 0, 0), -2);
        DUE.is("put(0, -1, 0, 0)", x.put(0, -1, 0, 0), -2);
        DUE.is("put(3, 3, 0, 0): BAD ahead of NULL", x.put(3, 3, 0, 0), -2);
        DUE.is("count(8)", x.count(8), 0);
        DUE.is("put(0, 0, 3, 9)", x.put(0, 0, 3, 9), -12);
        DUE.is("count(8) of INDEX", x.count(8), 2);
        DUE.is("put(0, 0, -1, 9)", x.put(0, 0, -1, 9), -12);
        DUE.is("put(0, 1, 3, 9): CAST ahead of INDEX", x.put(0, 1, 3, 9), -13);
        DUE.is("count(8) of CAST", x.count(8), 3);
        DUE.is("put(3, 1, 99, 9): NULL ahead of all", x.put(3, 1, 99, 9), -11);
        DUE.is("count(8) of NULL", x.count(8), 1);
        DUE.is("put(9, 0, 0, 0)", x.put(9, 0, 0, 0), -2);
        DUE.is("count(8) is as it was", x.count(8), 1);
        DUE.is("get(0, 0, 2) is as it was", x.get(0, 0, 2), 0);
    }

    private static void getIsRefused(WoodliceSenate x, int s, int form, int i, int finding) {
        DUE.is("get(" + s + ", " + form + ", " + i + ")", x.get(s, form, i), LEAST);
        DUE.is("count(8) behind get(" + s + ", " + form + ", " + i + ")", x.count(8), finding);
    }

    private static void get() {
        WoodliceSenate x = new WoodliceSenate();
        Told.fill(x, 0, 1, 300, -4, 5);
        DUE.is("get(0, 1, 0)", x.get(0, 1, 0), 300);
        DUE.is("get(0, 1, 1)", x.get(0, 1, 1), -4);
        getIsRefused(x, 4, 0, 0, 0);
        getIsRefused(x, -1, 0, 0, 0);
        getIsRefused(x, 0, 3, 0, 0);
        getIsRefused(x, 0, -1, 0, 0);
        getIsRefused(x, 0, 1, 3, 2);
        getIsRefused(x, 0, 2, 0, 3);
        getIsRefused(x, 0, 1, -1, 2);
        getIsRefused(x, 0, 0, 3, 3);
        getIsRefused(x, 1, 1, 3, 1);
        getIsRefused(x, 7, 1, 3, 1);
    }

    private static void rowIs(WoodliceSenate x, int s, int form, int... want) {
        for (int i = 0; i < want.length; i++) {
            DUE.is("get(" + s + ", " + form + ", " + i + ")", x.get(s, form, i), want[i]);
        }
    }

    private static void copy() {
        WoodliceSenate x = new WoodliceSenate();
        Told.fill(x, 0, 2, 1, 2, 3, 4, 5);
        Told.fill(x, 1, 2, 9, 9, 9);
        DUE.is("copy(0, 3, 1, 0, 2)", x.copy(0, 3, 1, 0, 2), 1);
        rowIs(x, 1, 2, 4, 5, 9);
        rowIs(x, 0, 2, 1, 2, 3, 4, 5);
        DUE.is("copy(0, 2, 1, 0, 3): all of it", x.copy(0, 2, 1, 0, 3), 1);
        rowIs(x, 1, 2, 3, 4, 5);
        DUE.is("copy(0, 5, 1, 3, 0): none, at the ends", x.copy(0, 5, 1, 3, 0), 1);
        DUE.is("count(8)", x.count(8), 0);
    }

    private static void copyWithinOne() {
        WoodliceSenate x = new WoodliceSenate();
        Told.fill(x, 0, 0, 1, 2, 3, 4, 5);
        DUE.is("copy(0, 0, 0, 1, 4)", x.copy(0, 0, 0, 1, 4), 1);
        rowIs(x, 0, 0, 1, 1, 2, 3, 4);
        DUE.is("copy(0, 2, 0, 0, 3)", x.copy(0, 2, 0, 0, 3), 1);
        rowIs(x, 0, 0, 2, 3, 4, 3, 4);
    }

    private static void copyRefused() {
        WoodliceSenate x = new WoodliceSenate();
        Told.fill(x, 0, 2, 1, 2, 3);
        Told.fill(x, 1, 2, 7, 8);
        Told.fill(x, 2, 1, 7, 8);
        int[][] bad = {{-1, 0, 1, 0, 1, -2}, {4, 0, 1, 0, 1, -2}, {0, 0, -1, 0, 1, -2}, {0, 0, 4, 0, 1, -2},
            {3, 0, 4, 0, 1, -2}, {3, 0, 0, 0, 1, -11}, {0, 0, 3, 0, 1, -11}, {3, -1, 2, 0, 1, -11},
            {0, 0, 2, 0, 1, -14}, {0, -1, 2, 0, 0, -14}, {0, -1, 1, 0, 1, -12}, {0, 0, 1, -1, 1, -12},
            {0, 0, 1, 0, -1, -12}, {0, 0, 1, 0, 3, -12}, {0, 2, 1, 0, 2, -12}, {0, 0, 1, 1, 2, -12},
            {0, 4, 1, 0, 0, -12}, {0, 0, 1, 3, 0, -12}, {0, 1, 1, 0, 2147483647, -12},
            {0, 2147483647, 1, 0, 1, -12}, {0, 0, 1, 2147483647, 1, -12}};
        for (int[] c : bad) {
            String call = "copy(" + c[0] + ", " + c[1] + ", " + c[2] + ", " + c[3] + ", " + c[4] + ")";
            int before = x.count(8);
            DUE.is(call, x.copy(c[0], c[1], c[2], c[3], c[4]), c[5]);
            DUE.is("count(8) behind " + call, x.count(8), c[5] == -2 ? before : -10 - c[5]);
        }
        rowIs(x, 1, 2, 7, 8);
    }

    private static void write() {
        WoodliceSenate x = Told.of("0123", "gau", Told.RAIN, 4, 0);
        x.sheet(0, 0, 3);
        x.sheet(1, 2, 14);
        x.put(1, 2, 12, 77);
        DUE.is("write(3, 0)", x.write(3, 0), 3);
        rowIs(x, 0, 0, 0, 1, 2);
        DUE.is("write(4, 1)", x.write(4, 1), 12);
        rowIs(x, 1, 2, 3, 4, 5, 6, 8, 8, 8, 8, 8, 8, 8, 8, 77, 0);
        x.sheet(2, 1, 0);
        DUE.is("write(4, 2) of no items", x.write(4, 2), 0);
        DUE.is("write(-1, 0)", x.write(-1, 0), -2);
        DUE.is("write(20, 0)", x.write(20, 0), -2);
        DUE.is("write(0, -1)", x.write(0, -1), -2);
        DUE.is("write(0, 4)", x.write(0, 4), -2);
        DUE.is("write(20, 3): BAD ahead of NULL", x.write(20, 3), -2);
        DUE.is("count(8)", x.count(8), 0);
        DUE.is("write(0, 3)", x.write(0, 3), -11);
        DUE.is("count(8) of NULL", x.count(8), 1);
    }

    private static void count() {
        WoodliceSenate x = Told.of("19", "gau;pbd", Told.LIFT, 9, 0, Told.FROST, 9, 0, Told.PEPPER, 19, 1);
        x.seen(0, 0, 1);
        // Both stand upright at place 1 from hour 0 on; they are rolled for 2 hours and for 1.
        int[] want = {2, 3, 2, 7, 1, 18 + 19 - 2, 2, 1, 0};
        for (int what = 0; what < want.length; what++) {
            DUE.is("count(" + what + ")", x.count(what), want[what]);
        }
        DUE.is("count(-1)", x.count(-1), -2);
        DUE.is("count(9)", x.count(9), -2);
    }
}
