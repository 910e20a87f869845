import java.util.function.ToLongFunction;

/** What only asks changes nothing, and what changes something is seen by all that is asked behind it. */
public final class QuestionsTest {
    private static final Edges EDGES = new Edges();
    private static final int LIFT = Told.LIFT, PEPPER = Told.PEPPER, FROST = Told.FROST, RAIN = Told.RAIN;

    private QuestionsTest() {
    }

    public static void main(String[] args) {
        ofTexts();
        ofHours();
        ofPlans();
        ofWhatWasSeen();
        ofSheets();
        changesAreSeen();
        nothingIsCountedTwice();
        oneBehindAnother();
        EDGES.end();
    }

    private static WoodliceSenate full() {
        WoodliceSenate x = Told.of("987654321098", "pau;gbd;ocu;pdd;geu;ofd;pgu;gld", LIFT, 0, 0, PEPPER, 1, 1, FROST,
                2, 2, RAIN, 3, 3, LIFT, 4, 4, PEPPER, 5, 5, FROST, 6, 6, RAIN, 19, 11);
        x.seen(0, 7, 11);
        x.seen(2, 3, 3);
        Told.fill(x, 0, 0, 1, 2, 3);
        Told.fill(x, 1, 2, Edges.LEAST, Edges.MOST);
        x.lose(2);
        return x;
    }

    private static void asks(String call, ToLongFunction<WoodliceSenate> asked) {
        EDGES.changesNothing(call, QuestionsTest::full, asked, asked.applyAsLong(full()));
    }

    private static void ofTexts() {
        for (int i = 0; i < 3; i++) {
            int what = i;
            asks("fault", x -> x.fault(what % 2));
            asks("stone", x -> x.stone(11 * (what % 2)));
            asks("member", x -> x.member(7, what));
        }
        for (int i = 0; i <= 8; i++) {
            int what = i;
            asks("count", x -> x.count(what));
        }
    }

    private static void ofHours() {
        for (int i = 0; i < 4; i++) {
            int what = i;
            asks("damp", x -> x.damp(19, 0, what % 2));
            asks("at", x -> x.at(19, 7, what));
            asks("house", x -> x.house(0, what % 3));
            asks("crowd", x -> x.crowd(what % 3));
        }
        asks("governments", WoodliceSenate::governments);
        asks("carried", WoodliceSenate::carried);
        asks("orator", WoodliceSenate::orator);
        asks("still", WoodliceSenate::still);
        asks("digest", WoodliceSenate::digest);
    }

    private static void ofPlans() {
        for (int i = 0; i < 2; i++) {
            int what = i;
            asks("seat", x -> x.seat(7, what));
            asks("seat", x -> x.seat(0, what));
            asks("dust", x -> x.dust(19, what));
            asks("boy", x -> x.boy(what));
            asks("calm", x -> x.calm(what));
        }
        asks("calm", x -> x.calm(-1));
    }

    private static void ofWhatWasSeen() {
        asks("never", WoodliceSenate::never);
        for (int i = 0; i < 2; i++) {
            int what = i;
            asks("sort", x -> x.sort(7 * what));
            asks("wet", x -> x.wet(11 * what));
            asks("ask", x -> x.ask(11 * what));
            asks("chance", x -> x.chance(5, 3, what));
            asks("ages", x -> x.ages(-1, 8 * what, what));
        }
    }

    private static void ofSheets() {
        asks("get", x -> x.get(0, 0, 2));
        asks("get", x -> x.get(1, 2, 0));
    }

    /** Behind each call that changes something the hours are asked, so none is answered as it was ahead. */
    private static void changesAreSeen() {
        WoodliceSenate x = Told.of("1", "gau");
        EDGES.row("first", new long[] {x.at(0, 0, 0), x.damp(0, 0, 0)}, 1, 1);
        x.type(0, '0');
        EDGES.row("type(0)", new long[] {x.at(0, 0, 0), x.damp(0, 1, 0)}, 0, 0);
        x.undo(0);
        EDGES.row("undo(0)", new long[] {x.at(0, 0, 0), x.damp(0, 1, 0)}, 1, 5);
        x.wipe(0);
        EDGES.row("wipe(0)", new long[] {x.at(0, 0, 0), x.damp(0, 0, 0)}, 0, 5);
        x.type(1, ';');
        EDGES.row("type(1)", new long[] {x.at(0, 0, 0), x.damp(0, 0, 1)}, -2, 0);
        x.undo(1);
        EDGES.row("undo(1)", new long[] {x.at(0, 0, 0), x.damp(0, 0, 1)}, 0, 1);
        x.event(PEPPER, 3, 0);
        EDGES.row("event", new long[] {x.carried(), x.house(3, 1)}, 3, 1);
        x.back();
        EDGES.row("back", new long[] {x.carried(), x.house(3, 1)}, 20, 0);
        Told.fill(x, 0, 0, PEPPER, 4, 0);
        x.read(0);
        EDGES.row("read", new long[] {x.carried(), x.house(4, 1)}, 4, 1);
        x.wipe(1);
        EDGES.row("wipe(1)", new long[] {x.carried(), x.damp(0, 0, 1)}, 0, 0);
    }

    /** When something is told behind an answer, speeches and steps are counted from the first hour again. */
    private static void nothingIsCountedTwice() {
        WoodliceSenate x = Told.of("010", "gau;gbd");
        EDGES.row("first", new long[] {x.count(4), x.at(0, 0, 3), x.orator(), x.still(), x.count(5)}, 1, 1, 0, 2, 40);
        x.event(RAIN, 19, 0);
        EDGES.row("a rain in 19", new long[] {x.count(4), x.at(0, 0, 3), x.orator(), x.still()}, 1, 1, 0, 2);
        x.event(PEPPER, 0, 0);
        EDGES.row("on its back", new long[] {x.count(4), x.at(19, 0, 3), x.orator(), x.still(), x.count(5)},
                0, 0, 0, 3, 0);
        x.back();
        x.event(LIFT, 19, 0);
        EDGES.row("lifted in 19", new long[] {x.count(4), x.at(18, 1, 2), x.at(19, 1, 2), x.still()}, 1, 0, 1, 2);
        x.back();
        EDGES.row("not lifted", new long[] {x.count(4), x.at(19, 1, 2), x.still()}, 1, 0, 2);
    }

    /** What was asked ahead is no part of an answer: greater ones ahead of lesser ones, each by its own. */
    private static void oneBehindAnother() {
        WoodliceSenate x = Told.of("", "gdd;gfd");
        EDGES.row("all alike, none carried", new long[] {x.crowd(2), x.seat(1, 0), x.seat(1, 1), x.dust(19, 0),
            x.dust(19, 1), x.boy(0), x.boy(1), x.orator(), x.ask(3), x.crowd(0)}, 1, 0, 0, 0, 0, 0, 0, 0, 0, 0);
        x.undo(1);
        x.type(1, 'u');
        EDGES.row("the second on its feet", new long[] {x.dust(0, 1), x.dust(19, 1), x.dust(19, 0), x.seat(0, 1),
            x.boy(1), x.dust(18, 0)}, 20, 1, 3, 0, 0, 3);
        x.event(PEPPER, 5, 3);
        EDGES.row("both from 5 on", new long[] {x.seat(1, 1), x.seat(0, 1), x.seat(0, 0), x.boy(1), x.boy(0),
            x.dust(19, 0), x.carried()}, 15, 15, 3, 3, 6, 0, 15);
        x.back();
        EDGES.row("as it was", new long[] {x.boy(1), x.dust(19, 1), x.seat(0, 1), x.carried()}, 0, 1, 0, 0);
    }
}
