import java.math.BigInteger;
import java.util.ArrayList;
import java.util.List;
import java.util.function.IntToLongFunction;
import java.util.regex.Matcher;
import java.util.regex.Pattern;

/**
 * The document once more, written apart from the class and with the Java library: everything is
 * gone through anew at each call, and nothing is kept but what was told.
 */
final class Model {
    private static final Pattern STONE = Pattern.compile("[0-9]{0,12}");
    private static final Pattern MEMBERS =
            Pattern.compile("([pgo][a-l][ud](;[pgo][a-l][ud]){0,7})?", Pattern.DOTALL);

    private record Member(int sort, int place, boolean upright) {
    }

    private record Event(int kind, int hour, int place) {
    }

    private record Sighting(int hour, int member, int place) {
    }

    /** What stands behind each hour. */
    private static final class Story {
        final int[][] damp = new int[20][];
        final int[][] place = new int[20][];
        final boolean[][] upright = new boolean[20][];
        final boolean[][] rolled = new boolean[20][];
        final int[][] speeches = new int[20][];
        final boolean[] went = new boolean[8];

        int heads(int hour, int p) {
            int n = 0;
            for (int at : place[hour]) {
                n += at == p ? 1 : 0;
            }
            return n;
        }

        int voices(int hour, boolean aye) {
            int n = 0;
            for (int m = 0; m < place[hour].length; m++) {
                n += !rolled[hour][m] && upright[hour][m] == aye ? 1 : 0;
            }
            return n;
        }

        boolean carried(int hour) {
            return voices(hour, true) > voices(hour, false);
        }

        int carried() {
            int n = 0;
            for (int h = 0; h < 20; h++) {
                n += carried(h) ? 1 : 0;
            }
            return n;
        }

        int governments() {
            int n = 0;
            for (int h = 0; h < 19; h++) {
                n += carried(h) ^ carried(h + 1) ? 1 : 0;
            }
            return n;
        }
    }

    private final String[] texts = {"", ""};
    private final List<Event> events = new ArrayList<>();
    private final List<Sighting> sightings = new ArrayList<>();
    private final int[] forms = {-1, -1, -1, -1};
    private final int[][] sheets = new int[4][];
    private int finding;

    // ---- the hours

    private static Story story(int[] first, List<Member> members, List<Event> events) {
        Story story = new Story();
        int n = members.size();
        int[] damp = first.clone();
        int[] place = members.stream().mapToInt(Member::place).toArray();
        boolean[] upright = new boolean[n];
        int[] left = new int[n];
        int[] speeches = new int[n];
        for (int m = 0; m < n; m++) {
            upright[m] = members.get(m).upright();
        }
        for (int hour = 0; hour < 20; hour++) {
            for (Event e : events) {
                if (e.hour() != hour) {
                    continue;
                }
                switch (e.kind()) {
                    case 0 -> {
                        for (int m = 0; m < n; m++) {
                            left[m] = members.get(m).sort() + 1;
                        }
                    }
                    case 1 -> {
                        for (int m = 0; m < n; m++) {
                            upright[m] ^= place[m] == e.place();
                        }
                    }
                    default -> {
                        for (int p = 0; p < 12; p++) {
                            damp[p] = e.kind() == 2 ? Math.max(0, damp[p] - 2) : Math.min(9, damp[p] + 3);
                        }
                    }
                }
            }
            for (int m = 0; m < n; m++) {
                int sort = members.get(m).sort();
                int steps = sort == 0 ? 2 : sort == 1 ? 1 : 1 - hour % 2;
                for (int s = 0; s < steps && upright[m] && left[m] == 0; s++) {
                    int less = place[m] == 0 ? -1 : damp[place[m] - 1];
                    int more = place[m] == 11 ? -1 : damp[place[m] + 1];
                    if (Math.max(less, more) <= damp[place[m]]) {
                        break;
                    }
                    place[m] += less >= more ? -1 : 1;
                    story.went[m] = true;
                    for (int o = 0; o < n; o++) {
                        if (o != m && place[o] == place[m] && left[o] == 0) {
                            upright[o] = !upright[o];
                            speeches[m]++;
                            break;
                        }
                    }
                }
            }
            story.place[hour] = place.clone();
            for (int p = 0; p < 12; p++) {
                damp[p] -= damp[p] > 0 && story.heads(hour, p) > 2 ? 1 : 0;
            }
            story.damp[hour] = damp.clone();
            story.upright[hour] = upright.clone();
            story.speeches[hour] = speeches.clone();
            story.rolled[hour] = new boolean[n];
            for (int m = 0; m < n; m++) {
                story.rolled[hour][m] = left[m] > 0;
                left[m] = Math.max(0, left[m] - 1);
            }
        }
        return story;
    }

    private int[] firstDamp() {
        int[] damp = new int[12];
        for (int p = 0; p < 12; p++) {
            damp[p] = fault(0) == -1 && p < texts[0].length() ? texts[0].charAt(p) - '0' : 5;
        }
        return damp;
    }

    private List<Member> members() {
        List<Member> all = new ArrayList<>();
        if (fault(1) == -1 && !texts[1].isEmpty()) {
            for (String one : texts[1].split(";")) {
                all.add(new Member("pgo".indexOf(one.charAt(0)), one.charAt(1) - 'a', one.charAt(2) == 'u'));
            }
        }
        return all;
    }

    private Story now() {
        return story(firstDamp(), members(), events);
    }

    private Story with(Event more) {
        List<Event> all = new ArrayList<>(events);
        all.add(more);
        return story(firstDamp(), members(), all);
    }

    private Story without(int... numbers) {
        List<Event> rest = new ArrayList<>(events);
        for (int i = numbers.length - 1; i >= 0; i--) {
            rest.remove(numbers[i]);
        }
        return story(firstDamp(), members(), rest);
    }

    private boolean cameOut(Story story) {
        return sightings.stream().allMatch(s -> s.member() < story.place[s.hour()].length
                && story.place[s.hour()][s.member()] == s.place());
    }

    private static boolean in(int v, int least, int most) {
        return v >= least && v <= most;
    }

    // ---- the stone, members, events

    int type(int text, int b) {
        if (!in(text, 0, 1) || !in(b, 0, 255)) {
            return -2;
        }
        if (texts[text].length() == (text == 0 ? 12 : 31)) {
            return -4;
        }
        texts[text] += (char) b;
        return texts[text].length();
    }

    int wipe(int text) {
        if (!in(text, 0, 1)) {
            return -2;
        }
        int had = texts[text].length();
        texts[text] = "";
        return had;
    }

    int undo(int text) {
        if (!in(text, 0, 1)) {
            return -2;
        }
        if (texts[text].isEmpty()) {
            return -3;
        }
        texts[text] = texts[text].substring(0, texts[text].length() - 1);
        return texts[text].length();
    }

    int fault(int text) {
        if (!in(text, 0, 1)) {
            return -2;
        }
        Pattern pattern = text == 0 ? STONE : MEMBERS;
        for (int i = 0; i <= texts[text].length(); i++) {
            Matcher ahead = pattern.matcher(texts[text].substring(0, i));
            if (!ahead.matches() && !ahead.hitEnd()) {
                return i - 1;
            }
        }
        return pattern.matcher(texts[text]).matches() ? -1 : texts[text].length();
    }

    int stone(int place) {
        return in(place, 0, 11) ? firstDamp()[place] : -2;
    }

    int member(int member, int what) {
        if (!in(member, 0, members().size() - 1) || !in(what, 0, 2)) {
            return -2;
        }
        Member m = members().get(member);
        return what == 0 ? m.sort() : what == 1 ? m.place() : m.upright() ? 1 : 0;
    }

    int event(int kind, int hour, int place) {
        if (!in(kind, 0, 3) || !in(hour, 0, 19) || !in(place, 0, 11)) {
            return -2;
        }
        if (events.size() == 8) {
            return -4;
        }
        events.add(new Event(kind, hour, place));
        return events.size();
    }

    int back() {
        if (events.isEmpty()) {
            return -3;
        }
        events.remove(events.size() - 1);
        return events.size();
    }

    int read(int s) {
        if (!in(s, 0, 3)) {
            return -2;
        }
        if (forms[s] == -1) {
            return found(1);
        }
        int took = 0;
        while (3 * took + 3 <= sheets[s].length
                && event(sheets[s][3 * took], sheets[s][3 * took + 1], sheets[s][3 * took + 2]) > 0) {
            took++;
        }
        return took;
    }

    // ---- hours

    int damp(int hour, int place, int what) {
        if (!in(hour, 0, 19) || !in(place, 0, 11) || !in(what, 0, 1)) {
            return -2;
        }
        return what == 0 ? now().damp[hour][place] : now().heads(hour, place);
    }

    int at(int hour, int member, int what) {
        if (!in(hour, 0, 19) || !in(member, 0, members().size() - 1) || !in(what, 0, 3)) {
            return -2;
        }
        Story story = now();
        return switch (what) {
            case 0 -> story.place[hour][member];
            case 1 -> story.upright[hour][member] ? 1 : 0;
            case 2 -> story.rolled[hour][member] ? 1 : 0;
            default -> story.speeches[hour][member];
        };
    }

    int house(int hour, int what) {
        if (!in(hour, 0, 19) || !in(what, 0, 2)) {
            return -2;
        }
        return what < 2 ? now().voices(hour, what == 0) : now().carried(hour) ? 1 : 0;
    }

    int governments() {
        return now().governments();
    }

    int carried() {
        return now().carried();
    }

    int crowd(int what) {
        if (!in(what, 0, 2)) {
            return -2;
        }
        Story story = now();
        for (int most = members().size(); most > 0; most--) {
            for (int hour = 0; hour < 20; hour++) {
                for (int p = 0; p < 12; p++) {
                    if (story.heads(hour, p) == most) {
                        return new int[] {hour, p, most}[what];
                    }
                }
            }
        }
        return -1;
    }

    int orator() {
        Story story = now();
        int n = members().size();
        return n == 0 ? -1 : best(n, m -> story.speeches[19][m])[0];
    }

    int still() {
        int bits = 0;
        Story story = now();
        for (int m = 0; m < members().size(); m++) {
            bits += story.went[m] ? 0 : 1 << m;
        }
        return bits;
    }

    // ---- plans

    /** The least number below n whose value is greatest, and that value. */
    private static int[] best(int n, IntToLongFunction value) {
        int which = 0;
        for (int i = n - 1; i >= 0; i--) {
            which = value.applyAsLong(i) >= value.applyAsLong(which) ? i : which;
        }
        return new int[] {which, (int) value.applyAsLong(which)};
    }

    private static long[] all(int n, IntToLongFunction value) {
        long[] values = new long[n];
        for (int i = 0; i < n; i++) {
            values[i] = value.applyAsLong(i);
        }
        return values;
    }

    int seat(int member, int what) {
        if (!in(member, 0, members().size() - 1) || !in(what, 0, 1)) {
            return -2;
        }
        long[] values = all(12, p -> {
            List<Member> others = members();
            Member m = others.get(member);
            others.set(member, new Member(m.sort(), p, m.upright()));
            return story(firstDamp(), others, events).carried();
        });
        return best(12, p -> values[p])[what];
    }

    int dust(int hour, int what) {
        if (!in(hour, 0, 19) || !in(what, 0, 1)) {
            return -2;
        }
        long[] values = all(12, p -> with(new Event(1, hour, p)).carried());
        return best(12, p -> values[p])[what];
    }

    int boy(int what) {
        if (!in(what, 0, 1)) {
            return -2;
        }
        long[] values = all(20, h -> with(new Event(0, h, 3)).governments());
        return best(20, h -> values[h])[what];
    }

    int calm(int i) {
        if (!in(i, -1, 1)) {
            return -2;
        }
        int[] row = calmRow();
        if (row == null) {
            return -1;
        }
        return i == -1 ? row.length : i < row.length ? row[i] : -1;
    }

    private int[] calmRow() {
        if (now().carried() == 20) {
            return new int[0];
        }
        for (int e = 0; e < events.size(); e++) {
            if (without(e).carried() == 20) {
                return new int[] {e};
            }
        }
        for (int e = 0; e < events.size(); e++) {
            for (int f = e + 1; f < events.size(); f++) {
                if (without(e, f).carried() == 20) {
                    return new int[] {e, f};
                }
            }
        }
        return null;
    }

    // ---- seen, chance, ages

    int seen(int hour, int member, int place) {
        if (!in(hour, 0, 19) || !in(member, 0, 7) || !in(place, 0, 11)) {
            return -2;
        }
        if (sightings.size() == 8) {
            return -4;
        }
        sightings.add(new Sighting(hour, member, place));
        return sightings.size();
    }

    int forget() {
        int had = sightings.size();
        sightings.clear();
        return had;
    }

    int never() {
        int bits = 0;
        for (int e = 0; e < events.size(); e++) {
            bits |= cameOut(without(e)) ? 1 << e : 0;
        }
        return bits;
    }

    int sort(int member) {
        if (!in(member, 0, members().size() - 1)) {
            return -2;
        }
        int bits = 0;
        for (int sort = 0; sort < 3; sort++) {
            List<Member> others = members();
            Member m = others.get(member);
            others.set(member, new Member(sort, m.place(), m.upright()));
            bits |= cameOut(story(firstDamp(), others, events)) ? 1 << sort : 0;
        }
        return bits;
    }

    private Story ifFirst(int place, int first) {
        int[] damp = firstDamp();
        damp[place] = first;
        return story(damp, members(), events);
    }

    int wet(int place) {
        if (!in(place, 0, 11)) {
            return -2;
        }
        int bits = 0;
        for (int first = 0; first < 10; first++) {
            bits |= cameOut(ifFirst(place, first)) ? 1 << first : 0;
        }
        return bits;
    }

    int ask(int place) {
        if (!in(place, 0, 11)) {
            return -2;
        }
        List<Story> stories = new ArrayList<>();
        for (int first = 0; first < 10; first++) {
            Story story = ifFirst(place, first);
            if (cameOut(story)) {
                stories.add(story);
            }
        }
        return best(20, hour -> {
            long most = 0;
            for (Story one : stories) {
                int damp = one.damp[hour][place];
                most = Math.max(most, stories.stream().filter(s -> s.damp[hour][place] == damp).count());
            }
            return -most;
        })[0];
    }

    long chance(int c, int hour, int what) {
        if (!in(c, 0, 16) || !in(hour, 0, 19) || !in(what, 0, 1)) {
            return Long.MIN_VALUE + 2;
        }
        BigInteger above = ways(0, c, hour, new ArrayList<>());
        BigInteger below = BigInteger.valueOf(16).pow(events.size());
        return (what == 0 ? above : below).divide(above.gcd(below)).longValueExact();
    }

    private BigInteger ways(int from, int c, int hour, List<Event> chosen) {
        if (from == events.size()) {
            return story(firstDamp(), members(), chosen).carried(hour) ? BigInteger.ONE : BigInteger.ZERO;
        }
        List<Event> more = new ArrayList<>(chosen);
        more.add(events.get(from));
        return ways(from + 1, c, hour, more).multiply(BigInteger.valueOf(c))
                .add(ways(from + 1, c, hour, chosen).multiply(BigInteger.valueOf(16 - c)));
    }

    int ages(int seed, int n, int what) {
        if (!in(n, 0, 8) || !in(what, 0, 1)) {
            return -2;
        }
        List<Event> drawn = new ArrayList<>();
        long s = seed;
        for (int e = 0; e < n; e++) {
            int[] lots = new int[3];
            for (int i = 0; i < 3; i++) {
                s = (1103515245L * s + 12345L) & 0xffffffffL;
                lots[i] = (int) (s / 65536 % new int[] {4, 20, 12}[i]);
            }
            drawn.add(new Event(lots[0], lots[1], lots[2]));
        }
        Story story = story(firstDamp(), members(), drawn);
        return what == 0 ? story.carried() : story.governments();
    }

    // ---- sheets

    private int found(int number) {
        finding = number;
        return -10 - number;
    }

    int sheet(int s, int form, int n) {
        if (!in(s, 0, 3) || !in(form, 0, 2) || n > 60) {
            return -2;
        }
        if (n < 0) {
            return found(5);
        }
        forms[s] = form;
        sheets[s] = new int[n];
        return n;
    }

    int lose(int s) {
        if (!in(s, 0, 3)) {
            return -2;
        }
        if (forms[s] == -1) {
            return found(1);
        }
        forms[s] = -1;
        return sheets[s].length;
    }

    private int itemFinding(int s, int form, int i) {
        if (forms[s] == -1) {
            return found(1);
        }
        if (forms[s] != form) {
            return found(3);
        }
        return in(i, 0, sheets[s].length - 1) ? 0 : found(2);
    }

    int put(int s, int form, int i, int v) {
        if (!in(s, 0, 3) || !in(form, 0, 2)) {
            return -2;
        }
        int refusal = itemFinding(s, form, i);
        if (refusal != 0) {
            return refusal;
        }
        int lost = form == 0 ? 24 : form == 1 ? 16 : 0;
        sheets[s][i] = v << lost >> lost;
        return 1;
    }

    int get(int s, int form, int i) {
        if (!in(s, 0, 3) || !in(form, 0, 2) || itemFinding(s, form, i) != 0) {
            return Integer.MIN_VALUE;
        }
        return sheets[s][i];
    }

    int copy(int s, int i, int t, int j, int n) {
        if (!in(s, 0, 3) || !in(t, 0, 3)) {
            return -2;
        }
        if (forms[s] == -1 || forms[t] == -1) {
            return found(1);
        }
        if (forms[s] != forms[t]) {
            return found(4);
        }
        if (i < 0 || j < 0 || n < 0 || (long) i + n > sheets[s].length || (long) j + n > sheets[t].length) {
            return found(2);
        }
        int[] were = sheets[s].clone();
        for (int k = 0; k < n; k++) {
            sheets[t][j + k] = were[i + k];
        }
        return 1;
    }

    int write(int hour, int s) {
        if (!in(hour, 0, 19) || !in(s, 0, 3)) {
            return -2;
        }
        if (forms[s] == -1) {
            return found(1);
        }
        int n = Math.min(12, sheets[s].length);
        System.arraycopy(now().damp[hour], 0, sheets[s], 0, n);
        return n;
    }

    int count(int what) {
        switch (what) {
            case 0: return members().size();
            case 1: return events.size();
            case 2: return texts[0].length();
            case 3: return texts[1].length();
            case 4: return java.util.Arrays.stream(now().speeches[19]).sum();
            case 5:
                Story story = now();
                int ayes = 0;
                for (int hour = 0; hour < 20; hour++) {
                    ayes += story.voices(hour, true);
                }
                return ayes;
            case 6: return fault(0) == -1 ? texts[0].length() : 0;
            case 7: return sightings.size();
            case 8: return finding;
            default: return -2;
        }
    }

    long digest() {
        List<Long> told = new ArrayList<>();
        for (int what = 0; what < 8; what++) {
            told.add((long) count(what));
        }
        told.add((long) fault(0));
        told.add((long) fault(1));
        for (int p = 0; p < 12; p++) {
            int[] row = {stone(p), damp(6, p, 0), damp(6, p, 1), damp(19, p, 0), damp(19, p, 1), wet(p), ask(p)};
            addAll(told, row);
        }
        for (int m = 0; m < count(0); m++) {
            addAll(told, member(m, 0), member(m, 1), member(m, 2));
            for (int hour : new int[] {0, 7, 19}) {
                addAll(told, at(hour, m, 0), at(hour, m, 1), at(hour, m, 2), at(hour, m, 3));
            }
            addAll(told, seat(m, 0), seat(m, 1), sort(m));
        }
        for (int hour = 0; hour < 20; hour++) {
            addAll(told, house(hour, 0), house(hour, 1), house(hour, 2));
        }
        addAll(told, governments(), carried(), crowd(0), crowd(1), crowd(2), orator(), still());
        addAll(told, dust(8, 0), dust(8, 1), boy(0), boy(1), calm(-1), calm(0), never());
        told.add(chance(5, 9, 0));
        told.add(chance(5, 9, 1));
        addAll(told, ages(7, 6, 0), ages(7, 6, 1));
        BigInteger h = BigInteger.valueOf(17);
        for (long one : told) {
            h = h.multiply(BigInteger.valueOf(31)).add(BigInteger.valueOf(one));
        }
        return h.longValue();
    }

    private static void addAll(List<Long> told, int... more) {
        for (int one : more) {
            told.add((long) one);
        }
    }
}
