/**
 * The senate of woodlice under one stone: what is told of it as two texts and a row of events, and
 * what comes of that in twenty hours. All rows are made once, in the constructor, and used again.
 */
public final class WoodliceSenate {
    public static final int NONE = -1, BAD = -2, NOT = -3, FULL = -4;

    private static final int PLACES = 12, HOURS = 20;
    private static final int MOST_MEMBERS = 8, MOST_EVENTS = 8, MOST_SEEN = 8;
    private static final int STONE_BYTES = 12, MEMBERS_BYTES = 31, MEMBER_STRIDE = 4;
    private static final int DAMP_AT_LATER_PLACES = 5, MOST_DAMP = 9;
    private static final int PALE = 0, GREY = 1, OLD = 2, SORTS = 3;
    private static final int LIFT = 0, PEPPER = 1, FROST = 2, RAIN = 3, KINDS = 4;
    private static final int SIXTEENTHS = 16;
    private static final int[] DIGEST_HOURS = {0, 7, 19};
    private static final int LEAST_INT = -2147483648;
    private static final long LEAST_LONG = -9223372036854775808L;
    private static final int SHEETS = 4, BYTES = 0, SHORTS = 1, INTS = 2, MOST_ITEMS = 60, LOST = -1;
    private static final int NULL = 1, INDEX = 2, CAST = 3, STORE = 4, SIZE = 5;

    /** A row of bytes that grows and shrinks at its end. */
    private static final class Text {
        private final int[] bytes;
        private int size;

        Text(int room) {
            bytes = new int[Math.max(room, 0)];
        }

        int size() {
            return size;
        }

        boolean append(int b) {
            if (size < 0 || size >= bytes.length) {
                return false;
            }
            bytes[size] = b;
            size++;
            return true;
        }

        void cutTo(int left) {
            size = Math.max(0, Math.min(left, size));
        }

        int byteAt(int i) {
            return i >= 0 && i < size && i < bytes.length ? bytes[i] : NONE;
        }
    }

    /** What twenty hours come of: how damp it is at first, the members as told, the events. */
    private static final class Bill {
        private final int[] damp = new int[PLACES];
        private final int[] sorts = new int[MOST_MEMBERS];
        private final int[] places = new int[MOST_MEMBERS];
        private final int[] uprights = new int[MOST_MEMBERS];
        private int members;
        // One more than can be told: dust() and boy() try one more whatever room there is.
        private final int[] kinds = new int[MOST_EVENTS + 1];
        private final int[] hours = new int[MOST_EVENTS + 1];
        private final int[] spots = new int[MOST_EVENTS + 1];
        private int events;

        void takeAll(Bill other) {
            if (other == null) {
                return;
            }
            for (int p = 0; p < PLACES; p++) {
                damp[p] = other.damp[p];
            }
            for (int m = 0; m < MOST_MEMBERS; m++) {
                sorts[m] = other.sorts[m];
                places[m] = other.places[m];
                uprights[m] = other.uprights[m];
            }
            members = other.members;
            takeEvents(other, -1);
        }

        /** Takes those events of another bill whose bits are set. */
        void takeEvents(Bill other, int bits) {
            if (other == null) {
                return;
            }
            events = 0;
            for (int e = 0; e < other.events && e < other.kinds.length; e++) {
                if (((bits >> e) & 1) == 1) {
                    addEvent(other.kinds[e], other.hours[e], other.spots[e]);
                }
            }
        }

        void addEvent(int kind, int hour, int spot) {
            if (events < 0 || events >= kinds.length) {
                return;
            }
            kinds[events] = kind;
            hours[events] = hour;
            spots[events] = spot;
            events++;
        }

        void dropEvents(int left) {
            events = Math.max(0, Math.min(left, events));
        }

        void setDamp(int place, int value) {
            if (isPlace(place)) {
                damp[place] = value;
            }
        }

        int dampAt(int place) {
            return isPlace(place) ? damp[place] : 0;
        }

        void dropMembers() {
            members = 0;
        }

        void addMember(int sort, int place, int upright) {
            if (members < 0 || members >= MOST_MEMBERS) {
                return;
            }
            sorts[members] = sort;
            places[members] = place;
            uprights[members] = upright;
            members++;
        }

        boolean hasMember(int m) {
            return m >= 0 && m < members && m < MOST_MEMBERS;
        }

        int sortOf(int m) {
            return hasMember(m) ? sorts[m] : NONE;
        }

        void setSort(int m, int sort) {
            if (hasMember(m)) {
                sorts[m] = sort;
            }
        }

        int placeOf(int m) {
            return hasMember(m) ? places[m] : NONE;
        }

        void setPlace(int m, int place) {
            if (hasMember(m)) {
                places[m] = place;
            }
        }

        int uprightOf(int m) {
            return hasMember(m) ? uprights[m] : 0;
        }
    }

    /** The twenty hours that come of a bill, and what is known behind each of them. */
    private static final class Chamber {
        private final int[] damp = new int[PLACES];
        private final int[] heads = new int[PLACES];
        private final int[] sorts = new int[MOST_MEMBERS];
        private final int[] places = new int[MOST_MEMBERS];
        private final int[] uprights = new int[MOST_MEMBERS];
        private final int[] rolledUntil = new int[MOST_MEMBERS];
        private final boolean[] rolled = new boolean[MOST_MEMBERS];
        private final int[] speeches = new int[MOST_MEMBERS];
        private int members;
        private int movers;
        private final int[][] dampBehind = new int[HOURS][PLACES];
        private final int[][] headsBehind = new int[HOURS][PLACES];
        private final int[][] placeBehind = new int[HOURS][MOST_MEMBERS];
        private final int[][] uprightBehind = new int[HOURS][MOST_MEMBERS];
        private final int[][] rolledBehind = new int[HOURS][MOST_MEMBERS];
        private final int[][] speechesBehind = new int[HOURS][MOST_MEMBERS];
        private final int[] ayes = new int[HOURS];
        private final int[] noes = new int[HOURS];

        /** Goes through the first hours of a bill; later ones stay as they were. */
        void sit(Bill bill, int hours) {
            if (bill == null) {
                return;
            }
            begin(bill);
            for (int hour = 0; hour < hours && hour < HOURS; hour++) {
                doEvents(bill, hour);
                letMembersGo(hour);
                countHeads();
                dryCrowdedPlaces();
                divide(hour);
                keepRecord(hour);
            }
        }

        private void begin(Bill bill) {
            for (int p = 0; p < PLACES; p++) {
                damp[p] = bill.damp[p];
            }
            members = Math.max(0, Math.min(bill.members, MOST_MEMBERS));
            movers = 0;
            for (int m = 0; m < members; m++) {
                sorts[m] = bill.sorts[m];
                places[m] = bill.places[m];
                uprights[m] = bill.uprights[m];
                rolledUntil[m] = 0;
                speeches[m] = 0;
            }
        }

        private void doEvents(Bill bill, int hour) {
            for (int e = 0; e < bill.events && e < bill.kinds.length; e++) {
                int kind = bill.hours[e] == hour ? bill.kinds[e] : NONE;
                if (kind == LIFT) {
                    lift(hour);
                } else if (kind == PEPPER) {
                    pepper(bill.spots[e]);
                } else if (kind == FROST) {
                    wetAll(-2);
                } else if (kind == RAIN) {
                    wetAll(3);
                }
            }
            // Members roll up and unroll ahead of all that go, so this holds for the whole hour.
            for (int m = 0; m < members; m++) {
                rolled[m] = hour < rolledUntil[m];
            }
        }

        private void lift(int hour) {
            for (int m = 0; m < members; m++) {
                rolledUntil[m] = hour + 1 + sorts[m];
            }
        }

        private void pepper(int spot) {
            for (int m = 0; m < members; m++) {
                if (places[m] == spot) {
                    uprights[m] = 1 - uprights[m];
                }
            }
        }

        private void wetAll(int more) {
            for (int p = 0; p < PLACES; p++) {
                int wetter = damp[p] + more;
                damp[p] = wetter < 0 ? 0 : wetter > MOST_DAMP ? MOST_DAMP : wetter;
            }
        }

        private void letMembersGo(int hour) {
            for (int m = 0; m < members; m++) {
                int steps = uprights[m] == 1 && !rolled[m] ? stepsOf(sorts[m], hour) : 0;
                for (int s = 0; s < steps; s++) {
                    if (step(m)) {
                        passOver(m);
                    }
                }
            }
        }

        private static int stepsOf(int sort, int hour) {
            if (sort == OLD) {
                return hour % 2 == 0 ? 1 : 0;
            }
            return sort == PALE ? 2 : 1;
        }

        /** Goes to the damper place beside, if there is one: whether it went. */
        private boolean step(int m) {
            if (m < 0 || m >= MOST_MEMBERS) {
                return false;
            }
            int from = places[m];
            int to = from;
            if (from > 0 && from < PLACES && damp[from - 1] > damp[to]) {
                to = from - 1;
            }
            if (from >= 0 && from + 1 < PLACES && damp[from + 1] > damp[to]) {
                to = from + 1;
            }
            if (to == from) {
                return false;
            }
            places[m] = to;
            movers |= 1 << m;
            return true;
        }

        private void passOver(int m) {
            if (m < 0 || m >= MOST_MEMBERS) {
                return;
            }
            for (int other = 0; other < members; other++) {
                if (other != m && places[other] == places[m] && !rolled[other]) {
                    uprights[other] = 1 - uprights[other];
                    speeches[m]++;
                    return;
                }
            }
        }

        private void countHeads() {
            for (int p = 0; p < PLACES; p++) {
                heads[p] = 0;
            }
            for (int m = 0; m < members; m++) {
                int place = places[m];
                if (isPlace(place)) {
                    heads[place]++;
                }
            }
        }

        private void dryCrowdedPlaces() {
            for (int p = 0; p < PLACES; p++) {
                if (heads[p] >= 3 && damp[p] > 0) {
                    damp[p]--;
                }
            }
        }

        private void divide(int hour) {
            if (!isHour(hour)) {
                return;
            }
            ayes[hour] = 0;
            noes[hour] = 0;
            for (int m = 0; m < members; m++) {
                if (!rolled[m]) {
                    ayes[hour] += uprights[m];
                    noes[hour] += 1 - uprights[m];
                }
            }
        }

        private void keepRecord(int hour) {
            if (!isHour(hour)) {
                return;
            }
            for (int p = 0; p < PLACES; p++) {
                dampBehind[hour][p] = damp[p];
                headsBehind[hour][p] = heads[p];
            }
            for (int m = 0; m < members; m++) {
                placeBehind[hour][m] = places[m];
                uprightBehind[hour][m] = uprights[m];
                rolledBehind[hour][m] = rolled[m] ? 1 : 0;
                speechesBehind[hour][m] = speeches[m];
            }
        }

        int dampOf(int hour, int place) {
            return isHour(hour) && isPlace(place) ? dampBehind[hour][place] : 0;
        }

        int headsAt(int hour, int place) {
            return isHour(hour) && isPlace(place) ? headsBehind[hour][place] : 0;
        }

        /** Of a member behind an hour: 0 its place, 1 upright, 2 rolled, 3 speeches up to then. */
        int ofMember(int hour, int m, int what) {
            if (!isHour(hour) || m < 0 || m >= MOST_MEMBERS || m >= members) {
                return NONE;
            }
            if (what == 0) {
                return placeBehind[hour][m];
            }
            if (what == 1) {
                return uprightBehind[hour][m];
            }
            return what == 2 ? rolledBehind[hour][m] : speechesBehind[hour][m];
        }

        int ayesOf(int hour) {
            return isHour(hour) ? ayes[hour] : 0;
        }

        int noesOf(int hour) {
            return isHour(hour) ? noes[hour] : 0;
        }

        boolean carries(int hour) {
            return isHour(hour) && ayes[hour] > noes[hour];
        }

        int carriedInAll() {
            int sum = 0;
            for (int hour = 0; hour < HOURS; hour++) {
                sum += carries(hour) ? 1 : 0;
            }
            return sum;
        }

        int governmentsInAll() {
            int sum = 0;
            for (int hour = 1; hour < HOURS; hour++) {
                sum += carries(hour) != carries(hour - 1) ? 1 : 0;
            }
            return sum;
        }

        int ayesInAll() {
            int sum = 0;
            for (int hour = 0; hour < HOURS; hour++) {
                sum += ayes[hour];
            }
            return sum;
        }

        int speechesInAll() {
            int sum = 0;
            for (int m = 0; m < members; m++) {
                sum += speeches[m];
            }
            return sum;
        }

        /** The members that never made a step to another place, as bits. */
        int stillMembers() {
            return ((1 << members) - 1) & ~movers;
        }
    }

    /** The first of the candidates that were offered with the greatest value. */
    private static final class Best {
        private int which;
        private int value;

        void start() {
            which = NONE;
            value = NONE;
        }

        void offer(int candidate, int itsValue) {
            if (itsValue > value) {
                which = candidate;
                value = itsValue;
            }
        }
    }

    /** What was seen: behind an hour a member was at a place. */
    private static final class Sightings {
        private final int[] hours = new int[MOST_SEEN];
        private final int[] members = new int[MOST_SEEN];
        private final int[] places = new int[MOST_SEEN];
        private int size;

        boolean add(int hour, int member, int place) {
            if (size < 0 || size >= MOST_SEEN) {
                return false;
            }
            hours[size] = hour;
            members[size] = member;
            places[size] = place;
            size++;
            return true;
        }

        boolean comeOutSo(Chamber chamber) {
            if (chamber == null) {
                return false;
            }
            for (int i = 0; i < size && i < MOST_SEEN; i++) {
                if (chamber.ofMember(hours[i], members[i], 0) != places[i]) {
                    return false;
                }
            }
            return true;
        }
    }

    /** A row of a form, or lost. */
    private static final class Sheet {
        private final int[] items = new int[MOST_ITEMS];
        private int form = LOST;
        private int size;

        void renew(int newForm, int newSize) {
            form = newForm;
            size = Math.max(0, Math.min(newSize, MOST_ITEMS));
            for (int i = 0; i < size; i++) {
                items[i] = 0;
            }
        }

        boolean isLost() {
            return form == LOST;
        }

        boolean hasItem(int i) {
            return i >= 0 && i < size && i < MOST_ITEMS;
        }

        boolean hasRun(int i, int n) {
            return i >= 0 && n >= 0 && i <= size && n <= size - i;
        }

        int item(int i) {
            return hasItem(i) ? items[i] : 0;
        }

        void setItem(int i, int v) {
            if (!hasItem(i)) {
                return;
            }
            if (form == BYTES) {
                items[i] = (byte) v;
            } else if (form == SHORTS) {
                items[i] = (short) v;
            } else {
                items[i] = v;
            }
        }

        void takeRun(Sheet from, int i, int j, int n) {
            if (from != null && from.hasRun(i, n) && hasRun(j, n)) {
                System.arraycopy(from.items, i, items, j, n);
            }
        }
    }

    private final Text stoneText = new Text(STONE_BYTES);
    private final Text membersText = new Text(MEMBERS_BYTES);
    private final Bill told = new Bill();
    private final Bill draft = new Bill();
    private final Chamber sitting = new Chamber();
    private final Chamber trial = new Chamber();
    private final Sightings sightings = new Sightings();
    private final Best best = new Best();
    private final Sheet[] sheets = new Sheet[SHEETS];
    // How damp a place is behind each hour, by how damp it was at first.
    private final int[][] dampByFirst = new int[HOURS][MOST_DAMP + 1];
    private final int[] tally = new int[MOST_DAMP + 1];
    private boolean stale = true;
    private int latestFinding;
    private int calmSize;
    private int calmFirst;
    private int calmSecond;

    public WoodliceSenate() {
        for (int s = 0; s < SHEETS; s++) {
            sheets[s] = new Sheet();
        }
        readStone();
    }

    // ---- the stone, members, events

    public int type(int text, int b) {
        Text row = textOf(text);
        if (row == null || b < 0 || b > 255) {
            return BAD;
        }
        if (!row.append(b)) {
            return FULL;
        }
        readTexts();
        return row.size();
    }

    public int wipe(int text) {
        Text row = textOf(text);
        if (row == null) {
            return BAD;
        }
        int had = row.size();
        row.cutTo(0);
        readTexts();
        return had;
    }

    public int undo(int text) {
        Text row = textOf(text);
        if (row == null) {
            return BAD;
        }
        if (row.size() == 0) {
            return NOT;
        }
        row.cutTo(row.size() - 1);
        readTexts();
        return row.size();
    }

    public int fault(int text) {
        if (text == 0) {
            return faultOfStone();
        }
        return text == 1 ? faultOfMembers() : BAD;
    }

    public int stone(int place) {
        return isPlace(place) ? told.dampAt(place) : BAD;
    }

    public int member(int member, int what) {
        if (!told.hasMember(member) || what < 0 || what > 2) {
            return BAD;
        }
        if (what == 0) {
            return told.sortOf(member);
        }
        return what == 1 ? told.placeOf(member) : told.uprightOf(member);
    }

    public int event(int kind, int hour, int place) {
        if (kind < 0 || kind >= KINDS || !isHour(hour) || !isPlace(place)) {
            return BAD;
        }
        if (told.events >= MOST_EVENTS) {
            return FULL;
        }
        told.addEvent(kind, hour, place);
        stale = true;
        return told.events;
    }

    public int back() {
        if (told.events == 0) {
            return NOT;
        }
        told.dropEvents(told.events - 1);
        stale = true;
        return told.events;
    }

    public int read(int s) {
        Sheet sheet = sheetOf(s);
        if (sheet == null) {
            return BAD;
        }
        if (sheet.isLost()) {
            return finding(NULL);
        }
        int taken = 0;
        for (int i = 0; i + 2 < sheet.size; i += 3) {
            if (event(sheet.item(i), sheet.item(i + 1), sheet.item(i + 2)) < 0) {
                return taken;
            }
            taken++;
        }
        return taken;
    }

    // ---- hours

    public int damp(int hour, int place, int what) {
        if (!isHour(hour) || !isPlace(place) || what < 0 || what > 1) {
            return BAD;
        }
        Chamber now = chamberAsTold();
        return what == 0 ? now.dampOf(hour, place) : now.headsAt(hour, place);
    }

    public int at(int hour, int member, int what) {
        if (!isHour(hour) || !told.hasMember(member) || what < 0 || what > 3) {
            return BAD;
        }
        return chamberAsTold().ofMember(hour, member, what);
    }

    public int house(int hour, int what) {
        if (!isHour(hour) || what < 0 || what > 2) {
            return BAD;
        }
        Chamber now = chamberAsTold();
        if (what == 0) {
            return now.ayesOf(hour);
        }
        if (what == 1) {
            return now.noesOf(hour);
        }
        return now.carries(hour) ? 1 : 0;
    }

    public int governments() {
        return chamberAsTold().governmentsInAll();
    }

    public int carried() {
        return chamberAsTold().carriedInAll();
    }

    public int crowd(int what) {
        if (what < 0 || what > 2) {
            return BAD;
        }
        if (told.members == 0) {
            return NONE;
        }
        findCrowd(chamberAsTold());
        if (what == 2) {
            return best.value;
        }
        return what == 0 ? best.which / PLACES : best.which % PLACES;
    }

    public int orator() {
        Chamber now = chamberAsTold();
        best.start();
        for (int m = 0; m < told.members; m++) {
            best.offer(m, now.ofMember(HOURS - 1, m, 3));
        }
        return best.which;
    }

    public int still() {
        return chamberAsTold().stillMembers();
    }

    // ---- plans

    public int seat(int member, int what) {
        if (!told.hasMember(member) || what < 0 || what > 1) {
            return BAD;
        }
        findSeat(member);
        return what == 0 ? best.which : best.value;
    }

    public int dust(int hour, int what) {
        if (!isHour(hour) || what < 0 || what > 1) {
            return BAD;
        }
        findDust(hour);
        return what == 0 ? best.which : best.value;
    }

    public int boy(int what) {
        if (what < 0 || what > 1) {
            return BAD;
        }
        findBoy();
        return what == 0 ? best.which : best.value;
    }

    public int calm(int i) {
        if (i < NONE || i > 1) {
            return BAD;
        }
        findCalm();
        if (i == NONE) {
            return calmSize;
        }
        return i == 0 ? calmFirst : calmSecond;
    }

    // ---- seen, chance, ages

    public int seen(int hour, int member, int place) {
        if (!isHour(hour) || member < 0 || member >= MOST_MEMBERS || !isPlace(place)) {
            return BAD;
        }
        return sightings.add(hour, member, place) ? sightings.size : FULL;
    }

    public int forget() {
        int had = sightings.size;
        sightings.size = 0;
        return had;
    }

    public int never() {
        int bits = 0;
        draft.takeAll(told);
        for (int e = 0; e < told.events; e++) {
            draft.takeEvents(told, ~(1 << e));
            trial.sit(draft, HOURS);
            bits |= sightings.comeOutSo(trial) ? 1 << e : 0;
        }
        return bits;
    }

    public int sort(int member) {
        return told.hasMember(member) ? sortsThatFit(member) : BAD;
    }

    public int wet(int place) {
        return isPlace(place) ? firstsThatFit(place) : BAD;
    }

    public int ask(int place) {
        return isPlace(place) ? hourToAsk(firstsThatFit(place)) : BAD;
    }

    public long chance(int c, int hour, int what) {
        if (c < 0 || c > SIXTEENTHS || !isHour(hour) || what < 0 || what > 1) {
            return LEAST_LONG - BAD;
        }
        long above = waysCarried(c, hour);
        long below = 1L << (4 * told.events);
        // What is below is a power of two, so halving both finds the lowest terms.
        for (int i = 0; i < 4 * MOST_EVENTS && below > 1 && (above & 1) == 0; i++) {
            above >>= 1;
            below >>= 1;
        }
        return what == 0 ? above : below;
    }

    public int ages(int seed, int n, int what) {
        if (n < 0 || n > MOST_EVENTS || what < 0 || what > 1) {
            return BAD;
        }
        sitAges(seed, n);
        return what == 0 ? trial.carriedInAll() : trial.governmentsInAll();
    }

    // ---- sheets

    public int sheet(int s, int form, int n) {
        Sheet sheet = sheetOf(s);
        if (sheet == null || !isForm(form) || n > MOST_ITEMS) {
            return BAD;
        }
        if (n < 0) {
            return finding(SIZE);
        }
        sheet.renew(form, n);
        return n;
    }

    public int lose(int s) {
        Sheet sheet = sheetOf(s);
        if (sheet == null) {
            return BAD;
        }
        if (sheet.isLost()) {
            return finding(NULL);
        }
        int had = sheet.size;
        sheet.renew(LOST, 0);
        return had;
    }

    public int put(int s, int form, int i, int v) {
        Sheet sheet = sheetOf(s);
        if (sheet == null || !isForm(form)) {
            return BAD;
        }
        int refusal = itemRefusal(sheet, form, i);
        if (refusal != 0) {
            return refusal;
        }
        sheet.setItem(i, v);
        return 1;
    }

    public int get(int s, int form, int i) {
        Sheet sheet = sheetOf(s);
        if (sheet == null || !isForm(form) || itemRefusal(sheet, form, i) != 0) {
            return LEAST_INT;
        }
        return sheet.item(i);
    }

    public int copy(int s, int i, int t, int j, int n) {
        Sheet from = sheetOf(s);
        Sheet to = sheetOf(t);
        if (from == null || to == null) {
            return BAD;
        }
        if (from.isLost() || to.isLost()) {
            return finding(NULL);
        }
        if (from.form != to.form) {
            return finding(STORE);
        }
        if (!from.hasRun(i, n) || !to.hasRun(j, n)) {
            return finding(INDEX);
        }
        to.takeRun(from, i, j, n);
        return 1;
    }

    public int write(int hour, int s) {
        Sheet sheet = sheetOf(s);
        if (!isHour(hour) || sheet == null) {
            return BAD;
        }
        if (sheet.isLost()) {
            return finding(NULL);
        }
        int written = Math.min(sheet.size, PLACES);
        Chamber now = chamberAsTold();
        for (int p = 0; p < written; p++) {
            sheet.setItem(p, now.dampOf(hour, p));
        }
        return written;
    }

    public int count(int what) {
        switch (what) {
            case 0: return told.members;
            case 1: return told.events;
            case 2: return stoneText.size();
            case 3: return membersText.size();
            case 4: return chamberAsTold().speechesInAll();
            case 5: return chamberAsTold().ayesInAll();
            case 6: return faultOfStone() == NONE ? stoneText.size() : 0;
            case 7: return sightings.size;
            case 8: return latestFinding;
            default: return BAD;
        }
    }

    public long digest() {
        long h = 17;
        for (int what = 0; what <= 7; what++) {
            h = 31 * h + count(what);
        }
        h = 31 * h + fault(0);
        h = 31 * h + fault(1);
        h = digestOfPlaces(h);
        h = digestOfMembers(h);
        h = digestOfHours(h);
        return digestOfPlans(h);
    }

    // ---- what is a number as told

    private static boolean isPlace(int place) {
        return place >= 0 && place < PLACES;
    }

    private static boolean isHour(int hour) {
        return hour >= 0 && hour < HOURS;
    }

    private static boolean isForm(int form) {
        return form >= BYTES && form <= INTS;
    }

    private Text textOf(int text) {
        if (text == 0) {
            return stoneText;
        }
        return text == 1 ? membersText : null;
    }

    private Sheet sheetOf(int s) {
        return s >= 0 && s < SHEETS ? sheets[s] : null;
    }

    // ---- what is told

    private int faultOfStone() {
        for (int i = 0; i < stoneText.size(); i++) {
            int b = stoneText.byteAt(i);
            if (b < '0' || b > '9') {
                return i;
            }
        }
        return NONE;
    }

    // A ninth member has no room in 31 bytes, so that fault needs no test of its own.
    private int faultOfMembers() {
        int size = membersText.size();
        for (int i = 0; i < size; i++) {
            if (!canStand(membersText.byteAt(i), i % MEMBER_STRIDE)) {
                return i;
            }
        }
        return size == 0 || size % MEMBER_STRIDE == MEMBER_STRIDE - 1 ? NONE : size;
    }

    private static boolean canStand(int b, int spot) {
        if (spot == 0) {
            return b == 'p' || b == 'g' || b == 'o';
        }
        if (spot == 1) {
            return b >= 'a' && b <= 'l';
        }
        return spot == 2 ? b == 'u' || b == 'd' : b == ';';
    }

    private void readTexts() {
        readStone();
        readMembers();
        stale = true;
    }

    private void readStone() {
        int figures = faultOfStone() == NONE ? stoneText.size() : 0;
        for (int p = 0; p < PLACES; p++) {
            told.setDamp(p, p < figures ? stoneText.byteAt(p) - '0' : DAMP_AT_LATER_PLACES);
        }
    }

    private void readMembers() {
        told.dropMembers();
        if (faultOfMembers() != NONE) {
            return;
        }
        for (int i = 0; i + 2 < membersText.size(); i += MEMBER_STRIDE) {
            int place = membersText.byteAt(i + 1) - 'a';
            int upright = membersText.byteAt(i + 2) == 'u' ? 1 : 0;
            told.addMember(sortNamed(membersText.byteAt(i)), place, upright);
        }
    }

    private static int sortNamed(int b) {
        if (b == 'p') {
            return PALE;
        }
        return b == 'g' ? GREY : OLD;
    }

    // ---- hours and plans

    private Chamber chamberAsTold() {
        if (stale) {
            sitting.sit(told, HOURS);
            stale = false;
        }
        return sitting;
    }

    private void findCrowd(Chamber now) {
        best.start();
        if (now == null) {
            return;
        }
        for (int hour = 0; hour < HOURS; hour++) {
            for (int p = 0; p < PLACES; p++) {
                best.offer(hour * PLACES + p, now.headsAt(hour, p));
            }
        }
    }

    private void findSeat(int member) {
        best.start();
        draft.takeAll(told);
        for (int p = 0; p < PLACES; p++) {
            draft.setPlace(member, p);
            trial.sit(draft, HOURS);
            best.offer(p, trial.carriedInAll());
        }
    }

    private void findDust(int hour) {
        best.start();
        for (int p = 0; p < PLACES; p++) {
            sitWithOneMore(PEPPER, hour, p);
            best.offer(p, trial.carriedInAll());
        }
    }

    private void findBoy() {
        best.start();
        for (int hour = 0; hour < HOURS; hour++) {
            sitWithOneMore(LIFT, hour, 0);
            best.offer(hour, trial.governmentsInAll());
        }
    }

    private void sitWithOneMore(int kind, int hour, int place) {
        draft.takeAll(told);
        draft.addEvent(kind, hour, place);
        trial.sit(draft, HOURS);
    }

    private boolean isCalmWithout(int bits) {
        draft.takeAll(told);
        draft.takeEvents(told, ~bits);
        trial.sit(draft, HOURS);
        return trial.carriedInAll() == HOURS;
    }

    private void findCalm() {
        if (isCalmWithout(0)) {
            setCalm(0, NONE, NONE);
            return;
        }
        for (int e = 0; e < told.events; e++) {
            if (isCalmWithout(1 << e)) {
                setCalm(1, e, NONE);
                return;
            }
        }
        for (int e = 0; e < told.events; e++) {
            for (int f = e + 1; f < told.events; f++) {
                if (isCalmWithout((1 << e) | (1 << f))) {
                    setCalm(2, e, f);
                    return;
                }
            }
        }
        setCalm(NONE, NONE, NONE);
    }

    private void setCalm(int size, int first, int second) {
        calmSize = size;
        calmFirst = first;
        calmSecond = second;
    }

    // ---- what fits with what was seen

    private int sortsThatFit(int member) {
        int bits = 0;
        draft.takeAll(told);
        for (int sort = 0; sort < SORTS; sort++) {
            draft.setSort(member, sort);
            trial.sit(draft, HOURS);
            bits |= sightings.comeOutSo(trial) ? 1 << sort : 0;
        }
        return bits;
    }

    /** How damp a place may have been at first, as bits; keeps how damp it is then by each. */
    private int firstsThatFit(int place) {
        int bits = 0;
        draft.takeAll(told);
        for (int first = 0; first <= MOST_DAMP; first++) {
            draft.setDamp(place, first);
            trial.sit(draft, HOURS);
            bits |= sightings.comeOutSo(trial) ? 1 << first : 0;
            for (int hour = 0; hour < HOURS; hour++) {
                dampByFirst[hour][first] = trial.dampOf(hour, place);
            }
        }
        return bits;
    }

    private int hourToAsk(int bits) {
        best.start();
        for (int hour = 0; hour < HOURS; hour++) {
            best.offer(hour, MOST_DAMP + 1 - mostAlike(bits, hour));
        }
        return best.which;
    }

    private int mostAlike(int bits, int hour) {
        if (!isHour(hour)) {
            return 0;
        }
        for (int d = 0; d <= MOST_DAMP; d++) {
            tally[d] = 0;
        }
        int most = 0;
        for (int first = 0; first <= MOST_DAMP; first++) {
            int d = dampByFirst[hour][first];
            if (((bits >> first) & 1) == 1 && d >= 0 && d <= MOST_DAMP) {
                tally[d]++;
                most = Math.max(most, tally[d]);
            }
        }
        return most;
    }

    // ---- chances and ages

    /** Of the 16 to the power of events ways, each alike, those in which a motion is carried. */
    private long waysCarried(int c, int hour) {
        long sum = 0;
        draft.takeAll(told);
        for (int bits = 0; bits < (1 << told.events); bits++) {
            long ways = waysOf(bits, c);
            if (ways == 0) {
                continue;
            }
            draft.takeEvents(told, bits);
            trial.sit(draft, hour + 1);
            sum += trial.carries(hour) ? ways : 0;
        }
        return sum;
    }

    private long waysOf(int bits, int c) {
        long ways = 1;
        for (int e = 0; e < told.events; e++) {
            ways *= ((bits >> e) & 1) == 1 ? c : SIXTEENTHS - c;
        }
        return ways;
    }

    private void sitAges(int seed, int n) {
        int s = seed;
        draft.takeAll(told);
        draft.dropEvents(0);
        for (int e = 0; e < n && e < MOST_EVENTS; e++) {
            s = nextSeed(s);
            int kind = lot(s, KINDS);
            s = nextSeed(s);
            int hour = lot(s, HOURS);
            s = nextSeed(s);
            draft.addEvent(kind, hour, lot(s, PLACES));
        }
        trial.sit(draft, HOURS);
    }

    private static int nextSeed(int seed) {
        return 1103515245 * seed + 12345;
    }

    private static int lot(int seed, int m) {
        return m > 0 ? (seed >>> 16) % m : 0;
    }

    // ---- findings

    private int finding(int number) {
        latestFinding = number;
        return -10 - number;
    }

    /** The finding on an item of a sheet, noted, or 0. */
    private int itemRefusal(Sheet sheet, int form, int i) {
        if (sheet == null || sheet.isLost()) {
            return finding(NULL);
        }
        if (sheet.form != form) {
            return finding(CAST);
        }
        return sheet.hasItem(i) ? 0 : finding(INDEX);
    }

    // ---- digest

    private long digestOfPlaces(long begun) {
        long h = begun;
        for (int p = 0; p < PLACES; p++) {
            h = 31 * h + stone(p);
            h = 31 * h + damp(6, p, 0);
            h = 31 * h + damp(6, p, 1);
            h = 31 * h + damp(19, p, 0);
            h = 31 * h + damp(19, p, 1);
            int firsts = firstsThatFit(p);
            h = 31 * h + firsts;
            h = 31 * h + hourToAsk(firsts);
        }
        return h;
    }

    private long digestOfMembers(long begun) {
        long h = begun;
        Chamber now = chamberAsTold();
        for (int m = 0; m < told.members; m++) {
            for (int what = 0; what <= 2; what++) {
                h = 31 * h + member(m, what);
            }
            for (int i = 0; i < DIGEST_HOURS.length; i++) {
                for (int what = 0; what <= 3; what++) {
                    h = 31 * h + now.ofMember(DIGEST_HOURS[i], m, what);
                }
            }
            findSeat(m);
            h = 31 * h + best.which;
            h = 31 * h + best.value;
            h = 31 * h + sortsThatFit(m);
        }
        return h;
    }

    private long digestOfHours(long begun) {
        long h = begun;
        for (int hour = 0; hour < HOURS; hour++) {
            for (int what = 0; what <= 2; what++) {
                h = 31 * h + house(hour, what);
            }
        }
        h = 31 * h + governments();
        h = 31 * h + carried();
        for (int what = 0; what <= 2; what++) {
            h = 31 * h + crowd(what);
        }
        h = 31 * h + orator();
        return 31 * h + still();
    }

    private long digestOfPlans(long begun) {
        long h = begun;
        findDust(8);
        h = 31 * h + best.which;
        h = 31 * h + best.value;
        findBoy();
        h = 31 * h + best.which;
        h = 31 * h + best.value;
        findCalm();
        h = 31 * h + calmSize;
        h = 31 * h + calmFirst;
        h = 31 * h + never();
        h = 31 * h + chance(5, 9, 0);
        h = 31 * h + chance(5, 9, 1);
        sitAges(7, 6);
        h = 31 * h + trial.carriedInAll();
        return 31 * h + trial.governmentsInAll();
    }
}
