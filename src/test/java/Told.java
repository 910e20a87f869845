/** Makes objects of what tests tell: the stone and the members as texts, events as rows of three. */
final class Told {
    static final int LIFT = 0, PEPPER = 1, FROST = 2, RAIN = 3;
    static final int LEAST_INT = Integer.MIN_VALUE;

    private Told() {
    }

    static WoodliceSenate of(String stone, String members, int... events) {
        WoodliceSenate x = new WoodliceSenate();
        typeAll(x, 0, stone);
        typeAll(x, 1, members);
        for (int i = 0; i + 2 < events.length; i += 3) {
            x.event(events[i], events[i + 1], events[i + 2]);
        }
        return x;
    }

    static void typeAll(WoodliceSenate x, int text, String bytes) {
        for (int i = 0; i < bytes.length(); i++) {
            x.type(text, bytes.charAt(i));
        }
    }

    static void retype(WoodliceSenate x, int text, String bytes) {
        x.wipe(text);
        typeAll(x, text, bytes);
    }

    static void fill(WoodliceSenate x, int s, int form, int... items) {
        x.sheet(s, form, items.length);
        for (int i = 0; i < items.length; i++) {
            x.put(s, form, i, items[i]);
        }
    }
}
