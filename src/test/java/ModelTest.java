import java.util.Random;

/** Long runs of calls, ordinary and wrong ones, against the model: promises 1 to 38 together. */
public final class ModelTest {
    private static final int RUNS = 250, CALLS = 500, KINDS_OF_CALLS = 37;
    private static final int[] EDGES = {-2147483648, -100, -2, -1, 0, 1, 2, 3, 4, 7, 8, 11, 12, 15, 16, 17,
        19, 20, 59, 60, 61, 127, 128, 255, 256, 32767, 32768, 65536, 2147483647};

    private final Random random;
    private final WoodliceSenate real = new WoodliceSenate();
    private final Model model = new Model();
    private final Due due;
    private final int run;
    private int calls;

    private ModelTest(int run, Due due) {
        this.run = run;
        this.due = due;
        random = new Random(run);
    }

    public static void main(String[] args) {
        Due due = new Due();
        for (int run = 0; run < RUNS && due.wrongSoFar() == 0; run++) {
            new ModelTest(run, due).go();
        }
        due.end();
    }

    private void go() {
        if (random.nextInt(10) > 0) {
            tellAll();
        }
        while (calls < CALLS) {
            if (random.nextInt(60) == 0) {
                tellAll();
            } else {
                call(random.nextInt(KINDS_OF_CALLS), random.nextInt(8) == 0);
            }
        }
        same("digest()", real.digest(), model.digest());
    }

    private void same(String call, long got, long want) {
        calls++;
        due.is("run " + run + ", call " + calls + ": " + call, got, want);
    }

    private int pick(int least, int most, boolean wild) {
        if (wild && random.nextInt(2) == 0) {
            return EDGES[random.nextInt(EDGES.length)];
        }
        return least + random.nextInt(most - least + 1);
    }

    private void typeAll(int text, String bytes) {
        same("wipe", real.wipe(text), model.wipe(text));
        for (int i = 0; i < bytes.length(); i++) {
            int b = bytes.charAt(i);
            same("type " + text + " " + b, real.type(text, b), model.type(text, b));
        }
    }

    private void tellAll() {
        StringBuilder stone = new StringBuilder();
        for (int i = random.nextInt(14); i > 0; i--) {
            stone.append((char) ('0' + random.nextInt(random.nextInt(30) == 0 ? 12 : 10)));
        }
        StringBuilder members = new StringBuilder();
        int near = random.nextInt(12);
        for (int n = random.nextInt(10), i = 0; i < n; i++) {
            int place = random.nextInt(3) > 0 ? Math.min(11, near + random.nextInt(3)) : random.nextInt(12);
            members.append(i > 0 ? ";" : "").append("pgo".charAt(random.nextInt(3)));
            members.append((char) ('a' + place)).append(random.nextInt(3) > 0 ? 'u' : 'd');
        }
        if (random.nextInt(8) == 0 && members.length() > 0) {
            members.setCharAt(random.nextInt(members.length()), (char) random.nextInt(256));
        }
        typeAll(0, stone.toString());
        typeAll(1, members.toString());
        for (int n = random.nextInt(9), i = 0; i < n; i++) {
            tellEvent(false);
        }
    }

    private void tellEvent(boolean wild) {
        int kind = pick(0, 3, wild);
        int hour = pick(0, random.nextInt(2) == 0 ? 7 : 19, wild);
        int place = pick(0, 11, wild);
        same("event " + kind + " " + hour + " " + place, real.event(kind, hour, place),
                model.event(kind, hour, place));
    }

    /** Mostly what truly comes out so, that the answers behind it are not all empty. */
    private void see(boolean wild) {
        int hour = pick(0, 19, wild);
        int member = pick(0, 7, wild);
        int there = model.at(hour, member, 0);
        int place = there >= 0 && random.nextInt(6) > 0 ? there : pick(0, 11, wild);
        same("seen " + hour + " " + member + " " + place, real.seen(hour, member, place),
                model.seen(hour, member, place));
    }

    private void call(int kind, boolean wild) {
        if (kind < 11) {
            callOfTelling(kind, wild);
        } else if (kind < 22) {
            callOfHours(kind, wild);
        } else if (kind < 29) {
            callOfSeeing(kind, wild);
        } else {
            callOfSheets(kind, wild);
        }
    }

    private void callOfTelling(int kind, boolean wild) {
        int text = pick(0, 1, wild);
        int s = pick(0, 3, wild);
        int place = pick(0, 11, wild);
        int m = pick(0, 7, wild);
        int what = pick(0, 2, wild);
        int b = pick(0, 255, wild);
        switch (kind) {
            case 0 -> {
                if (random.nextInt(3) == 0) {
                    same("type " + text + " " + b, real.type(text, b), model.type(text, b));
                }
            }
            case 1 -> {
                if (random.nextInt(20) == 0) {
                    same("wipe " + text, real.wipe(text), model.wipe(text));
                }
            }
            case 2 -> same("undo " + text, real.undo(text), model.undo(text));
            case 3 -> same("fault " + text, real.fault(text), model.fault(text));
            case 4 -> same("stone " + place, real.stone(place), model.stone(place));
            case 5 -> same("member " + m + " " + what, real.member(m, what), model.member(m, what));
            case 6, 7 -> tellEvent(wild);
            case 8 -> same("back", real.back(), model.back());
            case 9 -> fillAndRead(s, wild);
            default -> same("read " + s, real.read(s), model.read(s));
        }
    }

    private void fillAndRead(int s, boolean wild) {
        int form = pick(0, 2, wild);
        int n = random.nextInt(12);
        same("sheet " + s + " " + form + " " + n, real.sheet(s, form, n), model.sheet(s, form, n));
        for (int i = 0; i < n; i++) {
            int v = pick(0, i % 3 == 0 ? 3 : 11, random.nextInt(12) == 0);
            same("put " + s + " " + form + " " + i + " " + v, real.put(s, form, i, v), model.put(s, form, i, v));
        }
        same("read " + s, real.read(s), model.read(s));
    }

    private void callOfHours(int kind, boolean wild) {
        int hour = pick(0, 19, wild);
        int place = pick(0, 11, wild);
        int m = pick(0, 7, wild);
        int what = pick(0, 3, wild);
        int i = pick(-1, 1, wild);
        switch (kind) {
            case 11 -> same("damp " + hour + " " + place + " " + what, real.damp(hour, place, what),
                    model.damp(hour, place, what));
            case 12 -> same("at " + hour + " " + m + " " + what, real.at(hour, m, what), model.at(hour, m, what));
            case 13 -> same("house " + hour + " " + what, real.house(hour, what), model.house(hour, what));
            case 14 -> same("governments", real.governments(), model.governments());
            case 15 -> same("carried", real.carried(), model.carried());
            case 16 -> same("crowd " + what, real.crowd(what), model.crowd(what));
            case 17 -> same("orator", real.orator(), model.orator());
            case 18 -> same("still", real.still(), model.still());
            case 19 -> same("seat " + m + " " + what, real.seat(m, what), model.seat(m, what));
            case 20 -> same("dust " + hour + " " + what, real.dust(hour, what), model.dust(hour, what));
            default -> {
                same("boy " + what, real.boy(what), model.boy(what));
                same("calm " + i, real.calm(i), model.calm(i));
            }
        }
    }

    private void callOfSeeing(int kind, boolean wild) {
        int hour = pick(0, 19, wild);
        int place = pick(0, 11, wild);
        int m = pick(0, 7, wild);
        int c = pick(0, 16, wild);
        int what = pick(0, 1, wild);
        int n = pick(0, 8, wild);
        int seed = random.nextInt();
        switch (kind) {
            case 22 -> see(wild);
            case 23 -> {
                if (random.nextInt(4) == 0) {
                    same("forget", real.forget(), model.forget());
                }
            }
            case 24 -> same("never", real.never(), model.never());
            case 25 -> same("sort " + m, real.sort(m), model.sort(m));
            case 26 -> same("wet " + place, real.wet(place), model.wet(place));
            case 27 -> same("ask " + place, real.ask(place), model.ask(place));
            default -> {
                same("chance " + c + " " + hour + " " + what, real.chance(c, hour, what), model.chance(c, hour, what));
                same("ages " + seed + " " + n + " " + what, real.ages(seed, n, what), model.ages(seed, n, what));
            }
        }
    }

    private void callOfSheets(int kind, boolean wild) {
        int s = pick(0, 3, wild);
        int t = pick(0, 3, wild);
        int form = pick(0, 2, wild);
        int i = pick(0, 12, wild);
        int j = pick(0, 12, wild);
        int n = pick(0, random.nextInt(3) == 0 ? 60 : 20, wild);
        int v = pick(-300, 300, true);
        switch (kind) {
            case 29 -> same("sheet " + s + " " + form + " " + n, real.sheet(s, form, n), model.sheet(s, form, n));
            case 30 -> {
                if (random.nextInt(4) == 0) {
                    same("lose " + s, real.lose(s), model.lose(s));
                }
            }
            case 31 -> same("put " + s + " " + form + " " + i, real.put(s, form, i, v), model.put(s, form, i, v));
            case 32 -> same("get " + s + " " + form + " " + i, real.get(s, form, i), model.get(s, form, i));
            case 33 -> same("copy " + s + " " + i + " " + t + " " + j + " " + n, real.copy(s, i, t, j, n),
                    model.copy(s, i, t, j, n));
            case 34 -> same("write " + i + " " + s, real.write(i, s), model.write(i, s));
            case 35 -> same("count " + pickCount(i), real.count(pickCount(i)), model.count(pickCount(i)));
            default -> {
                if (random.nextInt(40) == 0) {
                    same("digest", real.digest(), model.digest());
                }
            }
        }
    }

    private static int pickCount(int i) {
        return i > 9 ? 8 : i;
    }
}
