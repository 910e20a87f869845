/** Promises 1 to 7: a new object, the two texts, the stone and the members as told. */
public final class TextsTest {
    private static final Due DUE = new Due();

    private TextsTest() {
    }

    public static void main(String[] args) {
        newObject();
        typing();
        wipingAndUndoing();
        faultsOfTheStone();
        faultsOfMembers();
        stone();
        members();
        DUE.end();
    }

    private static void newObject() {
        WoodliceSenate x = new WoodliceSenate();
        for (int what = 0; what <= 8; what++) {
            DUE.is("new: count(" + what + ")", x.count(what), 0);
        }
        for (int p = 0; p < 12; p++) {
            DUE.is("new: stone(" + p + ")", x.stone(p), 5);
            DUE.is("new: damp(19, " + p + ", 0)", x.damp(19, p, 0), 5);
        }
        DUE.is("new: fault(0)", x.fault(0), -1);
        DUE.is("new: fault(1)", x.fault(1), -1);
        DUE.is("new: member(0, 0)", x.member(0, 0), -2);
        DUE.is("new: back()", x.back(), -3);
        DUE.is("new: forget()", x.forget(), 0);
        for (int s = 0; s < 4; s++) {
            DUE.is("new: lose(" + s + ")", x.lose(s), -11);
        }
    }

    private static void typing() {
        WoodliceSenate x = new WoodliceSenate();
        DUE.is("type(-1, 48)", x.type(-1, 48), -2);
        DUE.is("type(2, 48)", x.type(2, 48), -2);
        DUE.is("type(0, -1)", x.type(0, -1), -2);
        DUE.is("type(0, 256)", x.type(0, 256), -2);
        DUE.is("count(2) behind refusals", x.count(2), 0);
        for (int n = 1; n <= 12; n++) {
            DUE.is("type(0) for the " + n + "th", x.type(0, n % 2 == 0 ? 0 : 255), n);
        }
        DUE.is("a 13th figure", x.type(0, 48), -4);
        DUE.is("a 13th that is none", x.type(0, 256), -2);
        DUE.is("count(2)", x.count(2), 12);
        for (int n = 1; n <= 31; n++) {
            DUE.is("type(1) for the " + n + "th", x.type(1, 'p'), n);
        }
        DUE.is("a 32nd byte", x.type(1, ';'), -4);
        DUE.is("count(3)", x.count(3), 31);
        DUE.is("count(8) is of findings alone", x.count(8), 0);
    }

    private static void wipingAndUndoing() {
        WoodliceSenate x = Told.of("123", "pau;g");
        DUE.is("wipe(-1)", x.wipe(-1), -2);
        DUE.is("wipe(2)", x.wipe(2), -2);
        DUE.is("undo(-1)", x.undo(-1), -2);
        DUE.is("undo(2)", x.undo(2), -2);
        DUE.is("undo(1)", x.undo(1), 4);
        DUE.is("count(0) with a fault", x.count(0), 0);
        DUE.is("undo(1) again", x.undo(1), 3);
        DUE.is("count(0) when undone", x.count(0), 1);
        DUE.is("undo(0)", x.undo(0), 2);
        DUE.is("stone(2) when undone", x.stone(2), 5);
        DUE.is("wipe(0)", x.wipe(0), 2);
        DUE.is("stone(0) when wiped", x.stone(0), 5);
        DUE.is("wipe(0) again", x.wipe(0), 0);
        DUE.is("undo(0) of an empty one", x.undo(0), -3);
        DUE.is("count(3) is as it was", x.count(3), 3);
        DUE.is("wipe(1)", x.wipe(1), 3);
        DUE.is("undo(1) of an empty one", x.undo(1), -3);
    }

    private static void fault(int text, String bytes, int want) {
        WoodliceSenate x = new WoodliceSenate();
        Told.typeAll(x, text, bytes);
        DUE.is("fault(" + text + ") of " + bytes, x.fault(text), want);
    }

    private static void faultsOfTheStone() {
        fault(0, "", -1);
        fault(0, "0", -1);
        fault(0, "012345678901", -1);
        fault(0, "/", 0);
        fault(0, "1:", 1);
        fault(0, "12345678901;", 11);
        fault(0, "1x2y", 1);
        DUE.is("fault(-1)", new WoodliceSenate().fault(-1), -2);
        DUE.is("fault(2)", new WoodliceSenate().fault(2), -2);
    }

    private static void faultsOfMembers() {
        fault(1, "", -1);
        fault(1, "p", 1);
        fault(1, "pa", 2);
        fault(1, "pau", -1);
        fault(1, "pau;", 4);
        fault(1, "pau;g", 5);
        fault(1, "pau;gld;ohu", -1);
        fault(1, "x", 0);
        fault(1, "P", 0);
        fault(1, "pm", 1);
        fault(1, "p`", 1);
        fault(1, "paU", 2);
        fault(1, "paup", 3);
        fault(1, "pau;;", 4);
        fault(1, "pau;gam;", 6);
        fault(1, "pau;pau;pau;pau;pau;pau;pau;pau", -1);
        fault(1, "pau;pau;pau;pau;pau;pau;pau;pa", 30);
        fault(1, "pau;pau;pau;pau;pau;pau;pau;pa;", 30);
    }

    private static void stone() {
        WoodliceSenate x = Told.of("0918273645", "");
        int[] want = {0, 9, 1, 8, 2, 7, 3, 6, 4, 5, 5, 5};
        for (int p = 0; p < 12; p++) {
            DUE.is("stone(" + p + ")", x.stone(p), want[p]);
        }
        DUE.is("stone(-1)", x.stone(-1), -2);
        DUE.is("stone(12)", x.stone(12), -2);
        DUE.is("count(6)", x.count(6), 10);
        x.type(0, 'a');
        DUE.is("stone(0) with a fault", x.stone(0), 5);
        DUE.is("stone(1) with a fault", x.stone(1), 5);
        DUE.is("count(6) with a fault", x.count(6), 0);
        DUE.is("count(2) with a fault", x.count(2), 11);
        x.undo(0);
        DUE.is("stone(1) when the fault is undone", x.stone(1), 9);
        x.event(Told.FROST, 0, 0);
        DUE.is("stone(1) is as it is at first", x.stone(1), 9);
    }

    private static void members() {
        WoodliceSenate x = Told.of("09", "pau;gld;ofu");
        int[][] want = {{0, 0, 1}, {1, 11, 0}, {2, 5, 1}};
        for (int m = 0; m < 3; m++) {
            for (int what = 0; what < 3; what++) {
                DUE.is("member(" + m + ", " + what + ")", x.member(m, what), want[m][what]);
            }
        }
        DUE.is("member(3, 0)", x.member(3, 0), -2);
        DUE.is("member(-1, 0)", x.member(-1, 0), -2);
        DUE.is("member(0, -1)", x.member(0, -1), -2);
        DUE.is("member(0, 3)", x.member(0, 3), -2);
        DUE.is("count(0)", x.count(0), 3);
        x.type(1, ';');
        DUE.is("member(0, 0) with a fault", x.member(0, 0), -2);
        DUE.is("count(0) with a fault", x.count(0), 0);
    }
}
