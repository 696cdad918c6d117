import java.util.Arrays;
import java.util.NoSuchElementException;

/**
 * Clocks that feed on the hours that people look at them. The words used here are those of the
 * document: HOUSE, CLOCK, PERSON, HOUR, ACT and so on.
 */
public final class FedClocks {
    public static final int NONE = -1;
    public static final int HIDDEN = -1000000;

    private static final int ROOMS = 5;
    private static final int PERSONS = 6;
    private static final int CLOCKS = 10;
    private static final int CLOCKS_TOLD = 6;
    private static final int WAY = 8;
    private static final int TAPE = 240;
    private static final int TASTES = 4;
    private static final int HEARD = 6;
    private static final int ACTS = 40;
    private static final int HOURS_PUT_BY = 60;
    private static final int HOURS_AHEAD = 60;
    private static final int KINDS = 4;
    private static final int LURES = 4;

    // All that an ACT can change is one row of numbers, so that keeping it, undoing to it and
    // trying something apart are one copy each. What of a CLOCK can be asked for stands in the
    // order in which it is asked for; of each number the ten CLOCKS', then the six PERSONS'.
    private static final int ROOM = 0;
    private static final int HUNGER = 10;
    private static final int FAT = 20;
    private static final int MOST = 30;
    private static final int STRIKE = 40;
    private static final int KIND = 50;
    private static final int FACES = 60;
    private static final int LIVES = 70;
    private static final int EATEN = 80;
    private static final int STRUCK = 90;
    private static final int LOST = 100;
    private static final int PAINTED = 110;
    // The HOUR at which it struck last or was there first: how long ago that is needs no counting.
    private static final int MARK = 120;
    private static final int LIVED = 130;
    private static final int MOTHER = 140;
    private static final int LURE = 150;
    private static final int EYES = 160;
    private static final int BLIND = 166;
    private static final int PLACE = 172;
    private static final int SENT = 178;
    private static final int HOUR = 184;
    private static final int COUNT = 185;
    private static final int ALL_EATEN = 186;
    private static final int ALL_STRIKES = 187;
    private static final int SIZE = 188;

    private final Tape tape = new Tape();
    private final HouseReader houseReader = new HouseReader(tape);
    private final TasteReader tasteReader = new TasteReader(tape);
    private final Taste[] tastes = new Taste[TASTES];
    private final Plan plan = new Plan();
    private final int[] now = new int[SIZE];
    private final Hours hours = new Hours(plan);
    private final Past past = new Past();
    private final Crowd crowded = new Crowd();
    private final Future future = new Future(plan, hours);
    private final Search search = new Search(plan, hours);
    private final Ears ears = new Ears(plan, hours);
    private boolean housed = false;
    private int tasteCount = 0;
    private int holding = NONE;

    public FedClocks() {
    }

    // ---- the tape and the texts

    public int feed(int a, int b, int c, int d, int e) {
        int more = Tape.signsIn(a) + Tape.signsIn(b) + Tape.signsIn(c) + Tape.signsIn(d) + Tape.signsIn(e);
        if (tape.length + more > TAPE) {
            return NONE;
        }
        tape.append(a);
        tape.append(b);
        tape.append(c);
        tape.append(d);
        tape.append(e);
        return tape.length;
    }

    public boolean end(int n) {
        if (n < 0 || n > tape.length) {
            return false;
        }
        tape.length = n;
        return true;
    }

    public int fault(int sort) {
        switch (sort) {
            case 0: return houseReader.read();
            case 1: return tasteReader.read();
            default: return -2;
        }
    }

    public int text(int sort) {
        if (sort == 0) {
            return houseReader.read() == NONE ? moveIn() : NONE;
        }
        if (sort == 1 && tasteCount < TASTES) {
            return tasteReader.read() == NONE ? learn() : NONE;
        }
        return NONE;
    }

    private int moveIn() {
        plan.copy(houseReader.plan);
        System.arraycopy(houseReader.start, 0, now, 0, SIZE);
        past.forget();
        ears.count = 0;
        housed = true;
        tape.length = 0;
        return now[COUNT];
    }

    private int learn() {
        tastes[tasteCount] = new Taste(tasteReader.code, tasteReader.length, tasteReader.personal);
        tasteCount++;
        tape.length = 0;
        return tasteCount - 1;
    }

    // ---- as it is

    public int clock(int clock, int what) throws NoSuchElementException {
        if (!isClock(clock) || what < 0 || what > 12) {
            throw new NoSuchElementException("no such CLOCK, or nothing such of it");
        }
        int told = now[what * CLOCKS + clock];
        return what == 12 ? now[HOUR] - told : told;
    }

    public int person(int person, int what) {
        if (!isPerson(person)) {
            return NONE;
        }
        switch (what) {
            case 0: return now[EYES + person];
            case 1: return now[BLIND + person];
            case 2: return now[PLACE + person];
            case 3: return now[SENT + person] == NONE ? 0 : 1;
            case 4: return plan.wayLength[person];
            default: return NONE;
        }
    }

    public int sees(int room) {
        return plan.seenFrom(room);
    }

    public boolean taste(int taste) {
        if (taste < NONE || taste >= tasteCount) {
            return false;
        }
        holding = taste;
        hours.taste = taste == NONE ? null : tastes[taste];
        return true;
    }

    public boolean crowd(int v) {
        if (v < 0 || v > 99 || v == crowded.below) {
            return false;
        }
        crowded.below = v;
        return true;
    }

    // ---- acts

    public int go(int n) {
        if (!housed || n < 1 || n > HOURS_AHEAD) {
            return NONE;
        }
        for (int i = 0; i < n; i++) {
            past.keep(now, true);
            hours.pass(now);
            past.putBy(hours);
        }
        return now[HOUR];
    }

    public int crowds(int n, long seed) {
        if (!housed || n < 1 || n > HOURS_AHEAD) {
            return NONE;
        }
        crowded.x = seed;
        for (int i = 0; i < n; i++) {
            past.keep(now, true);
            crowded.scatter(now, plan);
            hours.pass(now);
            past.putBy(hours);
        }
        return now[HOUR];
    }

    public int send(int person, int room) {
        if (!isPerson(person) || (room != NONE && !isRoom(room)) || now[SENT + person] == room) {
            return NONE;
        }
        return act(SENT + person, room);
    }

    public int blind(int person, boolean is) {
        if (!isPerson(person) || now[BLIND + person] == truth(is)) {
            return NONE;
        }
        return act(BLIND + person, truth(is));
    }

    public int hang(int clock, int room) {
        if (!isLiving(clock) || !isRoom(room) || now[ROOM + clock] == room) {
            return NONE;
        }
        return act(ROOM + clock, room);
    }

    public int face(int clock, int other) {
        if (!isLiving(clock) || clock == other || (other != NONE && !isClock(other))
                || now[FACES + clock] == other) {
            return NONE;
        }
        return act(FACES + clock, other);
    }

    public int wind(int clock, int by) {
        if (!isLiving(clock) || by < 1 || by > 20) {
            return NONE;
        }
        act(FAT + clock, Math.min(99, now[FAT + clock] + by));
        return now[FAT + clock];
    }

    public int paint(int clock, boolean is) {
        if (!isLiving(clock) || now[PAINTED + clock] == truth(is)) {
            return NONE;
        }
        return act(PAINTED + clock, truth(is));
    }

    public int undo() {
        return past.takeBack(now);
    }

    public int log(int i, int what) {
        return past.told(i, what);
    }

    private int act(int at, int value) {
        past.keep(now, false);
        now[at] = value;
        return past.acts;
    }

    // ---- what is ahead

    public int ahead(int clock, int n) {
        if (!housed || clock < 0 || clock >= CLOCKS || n < 0 || n > HOURS_AHEAD) {
            return NONE;
        }
        return future.fat(now, clock, n);
    }

    public int starves(int n, int what) {
        return firstOf(n, what, false);
    }

    public int wild(int n, int what) {
        return firstOf(n, what, true);
    }

    private int firstOf(int n, int what, boolean wild) {
        if (!housed || n < 1 || n > HOURS_AHEAD || what < 0 || what > 1) {
            return NONE;
        }
        future.begin(now);
        int hour = future.first(n, wild);
        return what == 0 ? future.which : hour;
    }

    public int full() {
        return housed ? future.fullBehind(now) : NONE;
    }

    public int kinds(int kind, int n) {
        if (!housed || kind < 0 || kind >= KINDS || n < 0 || n > HOURS_AHEAD) {
            return NONE;
        }
        return future.livingOf(now, kind, n);
    }

    public int rota(int n, int i) {
        if (!housed || n < 1 || n > 12 || i < NONE) {
            return NONE;
        }
        return search.rotas(now, n, i);
    }

    public int fewest(int n) {
        if (!housed || n < 1 || n > 12) {
            return NONE;
        }
        return search.fewestLookers(now, n);
    }

    public int best(int n, int what) {
        int living = living();
        if (!housed || n < 1 || n > 24 || what < 0 || what > 1 || living == 0) {
            return NONE;
        }
        if (living > CLOCKS_TOLD) {
            return HIDDEN;
        }
        search.bestWay(now, n);
        return what == 0 ? search.way : search.most;
    }

    public int later(int person) {
        return isPerson(person) ? future.laterBy(now, person) : HIDDEN;
    }

    public int spared(int n, int what) {
        if (!housed || n < 1 || n > 24 || what < 0 || what > 1 || living() == 0) {
            return NONE;
        }
        future.spare(now, n);
        return what == 0 ? future.which : future.most;
    }

    public int looks(int person) {
        return isPerson(person) ? future.nextLook(now, person) : NONE;
    }

    public int lures(int one, int other, int n, int price, int i) {
        if (!isLiving(one) || !isLiving(other) || one == other || n < 1 || n > 12
                || price < 0 || price > 99 || i < NONE) {
            return NONE;
        }
        future.play(now, one, other, n, price);
        return future.rests(i);
    }

    // ---- what was heard

    public int hear(int hour, int strikes) {
        if (!housed || hour < 1 || hour > HEARD || strikes < 0 || strikes > 999) {
            return NONE;
        }
        return ears.hold(hour, strikes);
    }

    public int thief(int person, int n, int i) {
        if (!isPerson(person) || n < 1 || n > 4 || i < NONE) {
            return NONE;
        }
        return ears.ways(now, person, n, i);
    }

    // ---- what clocks show

    public int shows(int clock) {
        return isClock(clock) ? 60 * now[LIVED + clock] - now[LOST + clock] : HIDDEN;
    }

    public int near(int t) {
        if (!housed || t < 0) {
            return NONE;
        }
        int bits = 0;
        for (int c = 0; c < now[COUNT]; c++) {
            if (now[LIVES + c] == 1 && now[LOST + c] <= t) {
                bits |= 1 << c;
            }
        }
        return bits;
    }

    public int middle() {
        int wanted = (living() - 1) / 2;
        for (int c = 0; c < now[COUNT]; c++) {
            if (now[LIVES + c] == 1 && slowerThan(c) == wanted) {
                return now[LOST + c];
            }
        }
        return NONE;
    }

    /** How many living ones stand ahead of this one, sorted by what they LOST. */
    private int slowerThan(int clock) {
        int ahead = 0;
        for (int c = 0; c < now[COUNT]; c++) {
            int less = Integer.compare(now[LOST + c], now[LOST + clock]);
            if (now[LIVES + c] == 1 && (less < 0 || (less == 0 && c < clock))) {
                ahead++;
            }
        }
        return ahead;
    }

    public int ring(int clock) {
        if (!isClock(clock)) {
            return NONE;
        }
        int at = clock;
        for (int steps = 1; steps <= CLOCKS; steps++) {
            at = now[FACES + at];
            if (at == clock) {
                return steps;
            }
            if (!isClock(at)) {
                return NONE;
            }
        }
        return NONE;
    }

    public int still() {
        if (!housed) {
            return NONE;
        }
        int bits = 0;
        for (int c = 0; c < now[COUNT]; c++) {
            if (Hours.isStill(now, c)) {
                bits |= 1 << c;
            }
        }
        return bits;
    }

    public int deaths(int clock) {
        if (!isClock(clock) || !Hours.isStill(now, clock)) {
            return NONE;
        }
        int one = starvesIn(clock);
        int other = starvesIn(now[FACES + clock]);
        if (one == NONE || other == NONE) {
            return Math.max(one, other);
        }
        return Math.min(one, other);
    }

    /** In how many HOURS HUNGER alone takes all FAT of a CLOCK. */
    private int starvesIn(int clock) {
        int hunger = now[HUNGER + clock];
        return hunger > 0 ? (now[FAT + clock] + hunger - 1) / hunger : NONE;
    }

    public int seen(int person, int room) {
        if (!isPerson(person) || !isRoom(room)) {
            return NONE;
        }
        int other = plan.seenFrom(room);
        int bits = 0;
        for (int c = 0; c < now[COUNT]; c++) {
            boolean there = now[ROOM + c] == room || now[ROOM + c] == other;
            if (there && now[LIVES + c] == 1 && !Hours.isStill(now, c)) {
                bits |= 1 << c;
            }
        }
        return bits;
    }

    public int child(int clock, int what) {
        if (!isClock(clock) || what < 0 || what > 1) {
            return HIDDEN;
        }
        return what == 0 ? now[MOTHER + clock] : line(clock);
    }

    private int line(int clock) {
        int at = clock;
        for (int steps = 0; steps < CLOCKS; steps++) {
            at = now[MOTHER + at];
            if (!isClock(at)) {
                return steps;
            }
        }
        return CLOCKS;
    }

    // ---- images and counts

    public int image() {
        if (!housed) {
            return NONE;
        }
        past.keepImage(now);
        return now[HOUR];
    }

    public int back() {
        return past.restore(now) ? now[HOUR] : NONE;
    }

    public int count(int what) {
        switch (what) {
            case 0: return plan.rooms;
            case 1: return now[COUNT];
            case 2: return plan.persons;
            case 3: return tasteCount;
            case 4: return tape.length;
            case 5: return holding;
            case 6: return now[HOUR];
            case 7: return crowded.below;
            case 8: return living();
            case 9: return ears.count;
            case 10: return past.acts;
            case 11: return past.hoursPutBy();
            case 12: return now[ALL_EATEN];
            case 13: return now[ALL_STRIKES];
            default: return HIDDEN;
        }
    }

    private int living() {
        return Hours.living(now);
    }

    private boolean isClock(int clock) {
        return clock >= 0 && clock < now[COUNT];
    }

    private boolean isLiving(int clock) {
        return isClock(clock) && now[LIVES + clock] == 1;
    }

    private boolean isPerson(int person) {
        return person >= 0 && person < plan.persons;
    }

    private boolean isRoom(int room) {
        return room >= 0 && room < plan.rooms;
    }

    private static int truth(boolean is) {
        return is ? 1 : 0;
    }

    private static int power(int base, int n) {
        int product = 1;
        for (int i = 0; i < n; i++) {
            product *= base;
        }
        return product;
    }

    /** The n places of a number in a base, read as decimal digits. */
    private static int digits(int number, int base, int n) {
        int rest = number;
        int told = 0;
        int unit = 1;
        for (int i = 0; i < n && base > 0; i++) {
            told += rest % base * unit;
            rest /= base;
            unit *= 10;
        }
        return told;
    }

    /** The bytes that were fed, and a place in them from which they are read. */
    private static final class Tape {
        final int[] signs = new int[TAPE];
        int length = 0;
        int at = 0;
        int number = 0;

        static int signsIn(int four) {
            int n = 0;
            for (int shift = 24; shift >= 0; shift -= 8) {
                n += (four >>> shift & 255) == 0 ? 0 : 1;
            }
            return n;
        }

        void append(int four) {
            for (int shift = 24; shift >= 0; shift -= 8) {
                int sign = four >>> shift & 255;
                if (sign != 0 && length < TAPE) {
                    signs[length] = sign;
                    length++;
                }
            }
        }

        /** The sign at this very place, a blank too; NONE at the end. */
        int here() {
            return at < length ? signs[at] : NONE;
        }

        /** Stands at the next sign that is no blank, and tells it; NONE at the end. */
        int next() {
            while (at < length && signs[at] == ' ') {
                at++;
            }
            return here();
        }

        boolean takes(int sign) {
            if (next() != sign) {
                return false;
            }
            at++;
            return true;
        }

        /** Reads a number of so many digits at most; otherwise stands where it is wrong. */
        boolean takesNumber(int most) {
            number = 0;
            if (!isDigit(next())) {
                return false;
            }
            for (int i = 0; i < most && isDigit(here()); i++) {
                number = number * 10 + here() - '0';
                at++;
            }
            return !isDigit(here());
        }

        static boolean isDigit(int sign) {
            return sign >= '0' && sign <= '9';
        }
    }

    /** What of a HOUSE no ACT changes. */
    private static final class Plan {
        final int[] other = new int[ROOMS];
        final int[] way = new int[PERSONS * WAY];
        final int[] wayLength = new int[PERSONS];
        int rooms = 0;
        int persons = 0;

        void copy(Plan from) {
            System.arraycopy(from.other, 0, other, 0, ROOMS);
            System.arraycopy(from.way, 0, way, 0, PERSONS * WAY);
            System.arraycopy(from.wayLength, 0, wayLength, 0, PERSONS);
            rooms = from.rooms;
            persons = from.persons;
        }

        int seenFrom(int room) {
            return room >= 0 && room < rooms ? other[room] : NONE;
        }
    }

    /** Reads the TAPE as a HOUSE into a plan and a row of its own. */
    private static final class HouseReader {
        private static final String OF_CLOCK = "rhfmtkz";
        private static final int[] CLOCK_LEAST = {0, 0, 1, 1, 1, 0, 0};
        private static final int[] CLOCK_MOST = {4, 9, 99, 99, 99, 3, 6};
        private static final int[] CLOCK_ELSE = {0, 1, 10, 40, 8, 0, 6};
        private static final int[] CLOCK_ROWS = {ROOM, HUNGER, FAT, MOST, STRIKE, KIND, FACES};
        private static final String OF_PERSON = "eb";
        private static final int[] PERSON_LEAST = {0, 0};
        private static final int[] PERSON_MOST = {9, 1};
        private static final String OF_ROOM = "s";
        private static final int[] ROOM_LEAST = {0};
        private static final int[] ROOM_MOST = {5};

        final Tape tape;
        final Plan plan = new Plan();
        final int[] start = new int[SIZE];
        final int[] items = new int[7];

        HouseReader(Tape tape) {
            this.tape = tape;
        }

        /** The FAULT; if it is NONE, the plan and the row at the start are the HOUSE. */
        int read() {
            Arrays.fill(start, 0);
            plan.rooms = 0;
            plan.persons = 0;
            tape.at = 0;
            for (int clauses = 0; clauses < TAPE; clauses++) {
                if (!clause()) {
                    return tape.at;
                }
                if (!tape.takes(';')) {
                    break;
                }
            }
            if (tape.next() != NONE) {
                return tape.at;
            }
            return isWhole() ? NONE : tape.length;
        }

        private boolean clause() {
            if (plan.rooms < ROOMS && tape.takes('r')) {
                return room();
            }
            if (start[COUNT] < CLOCKS_TOLD && tape.takes('c')) {
                return oneClock();
            }
            if (plan.persons < PERSONS && tape.takes('p')) {
                return onePerson();
            }
            tape.next();
            return false;
        }

        private boolean room() {
            items[0] = ROOMS;
            if (!takesItems(OF_ROOM, ROOM_LEAST, ROOM_MOST)) {
                return false;
            }
            plan.other[plan.rooms] = items[0] == ROOMS ? NONE : items[0];
            plan.rooms++;
            return true;
        }

        private boolean oneClock() {
            System.arraycopy(CLOCK_ELSE, 0, items, 0, CLOCK_ELSE.length);
            if (!takesItems(OF_CLOCK, CLOCK_LEAST, CLOCK_MOST)) {
                return false;
            }
            int c = start[COUNT];
            for (int i = 0; i < CLOCK_ROWS.length; i++) {
                start[CLOCK_ROWS[i] + c] = items[i];
            }
            if (start[FACES + c] == CLOCKS_TOLD) {
                start[FACES + c] = NONE;
            }
            start[LIVES + c] = 1;
            start[MOTHER + c] = NONE;
            start[COUNT]++;
            return true;
        }

        private boolean onePerson() {
            items[0] = 2;
            items[1] = 0;
            if (!takesItems(OF_PERSON, PERSON_LEAST, PERSON_MOST)) {
                return false;
            }
            int p = plan.persons;
            start[EYES + p] = items[0];
            start[BLIND + p] = items[1];
            start[SENT + p] = NONE;
            plan.wayLength[p] = 0;
            plan.persons++;
            return tape.takes(':') ? takesWay(p) : true;
        }

        /** Reads ITEMS over what stands in items; stands where they are wrong, if they are. */
        private boolean takesItems(String letters, int[] least, int[] most) {
            int had = 0;
            for (int i = 0; i <= letters.length(); i++) {
                int sign = tape.next();
                int item = sign == NONE ? NONE : letters.indexOf((char) sign);
                if (item == NONE) {
                    return true;
                }
                if ((had & 1 << item) != 0) {
                    return false;
                }
                had |= 1 << item;
                tape.at++;
                if (!tape.takesNumber(2)) {
                    return false;
                }
                if (tape.number < least[item] || tape.number > most[item]) {
                    tape.at--;
                    return false;
                }
                items[item] = tape.number;
            }
            return false;
        }

        private boolean takesWay(int p) {
            for (int i = 0; i <= WAY; i++) {
                int sign = tape.next();
                if (!Tape.isDigit(sign)) {
                    return i > 0;
                }
                if (i == WAY || sign > '4') {
                    return false;
                }
                plan.way[p * WAY + i] = sign - '0';
                plan.wayLength[p] = i + 1;
                tape.at++;
            }
            return false;
        }

        private boolean isWhole() {
            if (plan.rooms == 0 || start[COUNT] == 0 || plan.persons == 0) {
                return false;
            }
            for (int r = 0; r < plan.rooms; r++) {
                if (plan.other[r] >= plan.rooms) {
                    return false;
                }
            }
            for (int c = 0; c < start[COUNT]; c++) {
                int faced = start[FACES + c];
                if (start[ROOM + c] >= plan.rooms || faced >= start[COUNT] || faced == c) {
                    return false;
                }
            }
            return waysAreTold();
        }

        private boolean waysAreTold() {
            for (int p = 0; p < plan.persons; p++) {
                for (int i = 0; i < plan.wayLength[p]; i++) {
                    if (plan.way[p * WAY + i] >= plan.rooms) {
                        return false;
                    }
                }
            }
            return true;
        }
    }

    /** Reads the TAPE as a TASTE into code: signs behind that on which they work. */
    private static final class TasteReader {
        private static final String LETTERS = "fhskdp";
        private static final int DEEPEST = 6;

        final Tape tape;
        final int[] code = new int[TAPE];
        int length = 0;
        // Whether it asks who looks: if not, a CLOCK is worth the same to all.
        boolean personal = false;

        TasteReader(Tape tape) {
            this.tape = tape;
        }

        /** The FAULT; if it is NONE, the code is the TASTE. */
        int read() {
            length = 0;
            personal = false;
            tape.at = 0;
            for (int clauses = 0; clauses < TAPE; clauses++) {
                if (!clause()) {
                    return tape.at;
                }
                if (!tape.takes(';')) {
                    break;
                }
            }
            return tape.next() == NONE ? NONE : tape.at;
        }

        private boolean clause() {
            if (!tape.takes('y') || !tape.takes(':')) {
                return false;
            }
            int sign = tape.next();
            boolean conditioned = sign == '!' || sign == '(';
            if (!conditioned && !sum(0)) {
                return false;
            }
            int behind = tape.next();
            if (!conditioned && behind != '=' && behind != '<' && behind != '>') {
                return emit(Taste.DONE, 0);
            }
            if (!condition(0, !conditioned) || !tape.takes('?')) {
                return false;
            }
            int jump = length;
            emit(Taste.WHEN, 0);
            if (!sum(0)) {
                return false;
            }
            emit(Taste.DONE, 0);
            if (jump < code.length) {
                code[jump] = Taste.WHEN << Taste.SHIFT | length;
            }
            return true;
        }

        /** A CONDITION, whose first SUM may have been read: only what is behind tells it apart. */
        private boolean condition(int depth, boolean begun) {
            if (!truths(depth, begun)) {
                return false;
            }
            for (int i = 0; i < TAPE && tape.takes('|'); i++) {
                if (!truths(depth, false)) {
                    return false;
                }
                emit(Taste.OR, 0);
            }
            return true;
        }

        private boolean truths(int depth, boolean begun) {
            if (!unit(depth, begun)) {
                return false;
            }
            for (int i = 0; i < TAPE && tape.takes('&'); i++) {
                if (!unit(depth, false)) {
                    return false;
                }
                emit(Taste.AND, 0);
            }
            return true;
        }

        private boolean unit(int depth, boolean begun) {
            int sign = begun ? NONE : tape.next();
            if (sign == '!' || sign == '(') {
                return depth < DEEPEST && deeperUnit(sign, depth + 1);
            }
            if (!begun && !sum(depth)) {
                return false;
            }
            int compare = tape.next();
            if (compare != '=' && compare != '<' && compare != '>') {
                return false;
            }
            int sameOrLess = compare == '=' ? Taste.SAME : Taste.LESS;
            tape.at++;
            return sum(depth) && emit(compare == '>' ? Taste.MORE : sameOrLess, 0);
        }

        private boolean deeperUnit(int sign, int depth) {
            tape.at++;
            if (sign == '!') {
                return unit(depth, false) && emit(Taste.NOT, 0);
            }
            return condition(depth, false) && tape.takes(')');
        }

        private boolean sum(int depth) {
            if (!term(depth)) {
                return false;
            }
            for (int i = 0; i < TAPE; i++) {
                int sign = tape.next();
                if (sign != '+' && sign != '-') {
                    return true;
                }
                tape.at++;
                if (!term(depth)) {
                    return false;
                }
                emit(sign == '+' ? Taste.PLUS : Taste.MINUS, 0);
            }
            return false;
        }

        private boolean term(int depth) {
            if (!atom(depth)) {
                return false;
            }
            for (int i = 0; i < TAPE; i++) {
                int sign = tape.next();
                if (sign != '*' && sign != '/') {
                    return true;
                }
                tape.at++;
                if (!atom(depth)) {
                    return false;
                }
                emit(sign == '*' ? Taste.TIMES : Taste.OVER, 0);
            }
            return false;
        }

        private boolean atom(int depth) {
            int sign = tape.next();
            if (sign == '[') {
                if (depth == DEEPEST) {
                    return false;
                }
                tape.at++;
                return sum(depth + 1) && tape.takes(']');
            }
            if (Tape.isDigit(sign)) {
                return tape.takesNumber(4) && emit(Taste.NUMBER, tape.number);
            }
            int letter = sign == NONE ? NONE : LETTERS.indexOf((char) sign);
            if (letter == NONE) {
                return false;
            }
            tape.at++;
            personal |= sign == 'p';
            return emit(Taste.LETTER, letter);
        }

        private boolean emit(int sign, int operand) {
            if (length < code.length) {
                code[length] = sign << Taste.SHIFT | operand;
                length++;
            }
            return true;
        }
    }

    /** A TASTE as code for a stack of numbers. */
    private static final class Taste {
        static final int SHIFT = 14;
        static final int NUMBER = 0;
        static final int LETTER = 1;
        static final int WHEN = 2;
        static final int DONE = 3;
        static final int NOT = 4;
        static final int PLUS = 5;
        static final int MINUS = 6;
        static final int TIMES = 7;
        static final int OVER = 8;
        static final int SAME = 9;
        static final int LESS = 10;
        static final int MORE = 11;
        static final int AND = 12;
        static final int OR = 13;
        private static final int OPERAND = (1 << SHIFT) - 1;
        private static final int BOUND = 1000000;
        // Six signs within one another leave fewer than twenty numbers waiting.
        private static final int STACK = 32;

        final int[] code;
        final boolean personal;
        final int[] letters = new int[6];
        final long[] stack = new long[STACK];

        Taste(int[] read, int length, boolean personal) {
            code = Arrays.copyOf(read, length);
            this.personal = personal;
        }

        /** The WORTH by what stands in letters; in one method, as it is called at the deepest. */
        int worth() {
            int top = 0;
            for (int at = 0; at < code.length; at++) {
                int sign = code[at] >> SHIFT;
                int operand = code[at] & OPERAND;
                if (sign <= LETTER) {
                    if (top >= STACK || (sign == LETTER && operand >= letters.length)) {
                        return 0;
                    }
                    stack[top] = sign == NUMBER ? operand : letters[operand];
                    top++;
                    continue;
                }
                top--;
                if (top < 0 || (sign > NOT && top < 1)) {
                    return 0;
                }
                long last = stack[top];
                if (sign == DONE) {
                    return (int) last;
                }
                if (sign == WHEN) {
                    at = last == 0 ? Math.max(at, operand - 1) : at;
                    continue;
                }
                if (sign == NOT) {
                    stack[top] = 1 - last;
                    top++;
                    continue;
                }
                long first = stack[top - 1];
                long joined = 0;
                switch (sign) {
                    case PLUS: joined = first + last; break;
                    case MINUS: joined = first - last; break;
                    case TIMES: joined = first * last; break;
                    case OVER: joined = last == 0 ? 0 : first / last; break;
                    case SAME: joined = first == last ? 1 : 0; break;
                    case LESS: joined = first < last ? 1 : 0; break;
                    case MORE: joined = first > last ? 1 : 0; break;
                    case AND: joined = first & last; break;
                    default: joined = first | last; break;
                }
                stack[top - 1] = Math.max(-BOUND, Math.min(BOUND, joined));
            }
            return 0;
        }
    }

    /** HOURS that go by over a row; and what the latest of them brought. */
    private static final class Hours {
        final Plan plan;
        Taste taste = null;
        final int[] ate = new int[CLOCKS];
        int eaten = 0;
        int strikes = 0;
        int starved = 0;
        int born = 0;
        int firstStarved = NONE;
        int firstWild = NONE;
        // Which can be looked at, and what they are worth: the same for all PERSONS, mostly.
        private final boolean[] open = new boolean[CLOCKS];
        private final int[] worths = new int[2 * CLOCKS];
        private final int[] weighed = new int[2 * CLOCKS];

        Hours(Plan plan) {
            this.plan = plan;
        }

        static boolean isStill(int[] s, int clock) {
            int faced = s[FACES + clock];
            return faced >= 0 && faced < s[COUNT] && s[FACES + faced] == clock
                    && s[LIVES + clock] == 1 && s[LIVES + faced] == 1;
        }

        static int living(int[] s) {
            int living = 0;
            for (int c = 0; c < s[COUNT]; c++) {
                living += s[LIVES + c];
            }
            return living;
        }

        /** One HOUR goes by. */
        void pass(int[] s) {
            prepare(s);
            for (int p = 0; p < plan.persons; p++) {
                walk(s, p);
                int c = s[BLIND + p] == 1 ? NONE : choice(s, p);
                if (c != NONE && s[PAINTED + c] == 0) {
                    ate[c] += s[EYES + p];
                }
            }
            digest(s);
            goWild(s);
            s[HOUR]++;
            s[ALL_EATEN] += eaten;
            s[ALL_STRIKES] += strikes;
        }

        private void prepare(int[] s) {
            Arrays.fill(ate, 0);
            Arrays.fill(weighed, 0);
            for (int c = 0; c < s[COUNT]; c++) {
                open[c] = s[LIVES + c] == 1 && !isStill(s, c);
            }
        }

        private void walk(int[] s, int p) {
            if (s[SENT + p] != NONE) {
                s[PLACE + p] = s[SENT + p];
            } else if (plan.wayLength[p] > 0) {
                s[PLACE + p] = plan.way[p * WAY + s[HOUR] % plan.wayLength[p]];
            }
        }

        /** At which one a PERSON, where it is, looks; NONE at nothing. */
        private int choice(int[] s, int p) {
            int here = s[PLACE + p];
            int there = plan.seenFrom(here);
            int best = NONE;
            int most = 0;
            for (int c = 0; c < s[COUNT]; c++) {
                int room = s[ROOM + c];
                if (open[c] && (room == here || room == there)) {
                    int worth = taste == null ? 100 - s[FAT + c] : weigh(s, c, p, room == here ? 0 : 1);
                    worth += 10 * s[LURE + c];
                    if (best == NONE || worth > most) {
                        best = c;
                        most = worth;
                    }
                }
            }
            return best;
        }

        private int weigh(int[] s, int c, int p, int apart) {
            int at = apart * CLOCKS + c;
            if (weighed[at] == 0 || taste.personal) {
                int[] letters = taste.letters;
                letters[0] = s[FAT + c];
                letters[1] = s[HUNGER + c];
                letters[2] = s[HOUR] - s[MARK + c];
                letters[3] = s[KIND + c];
                letters[4] = apart;
                letters[5] = p;
                worths[at] = taste.worth();
                weighed[at] = 1;
            }
            return worths[at];
        }

        /** At which one a PERSON looks in the next HOUR; the row is where it goes by then. */
        int look(int[] s, int p) {
            prepare(s);
            walk(s, p);
            return s[BLIND + p] == 1 ? NONE : choice(s, p);
        }

        private void digest(int[] s) {
            eaten = 0;
            strikes = 0;
            starved = 0;
            firstStarved = NONE;
            for (int c = 0; c < s[COUNT]; c++) {
                if (s[LIVES + c] == 1) {
                    eaten += ate[c];
                    s[LIVED + c]++;
                    s[FAT + c] += ate[c] - s[HUNGER + c];
                    if (s[FAT + c] > 0) {
                        strike(s, c);
                        s[LOST + c] += s[FAT + c] / 10;
                    } else {
                        starve(s, c);
                    }
                }
            }
        }

        private void strike(int[] s, int c) {
            int since = s[EATEN + c] + ate[c];
            int each = s[STRIKE + c];
            int times = each > 0 ? since / each : 0;
            s[EATEN + c] = since - times * each;
            if (times > 0) {
                s[STRUCK + c] += times;
                s[MARK + c] = s[HOUR] + 1;
                strikes += times;
            }
        }

        private void starve(int[] s, int c) {
            s[FAT + c] = 0;
            s[LIVES + c] = 0;
            starved++;
            if (firstStarved == NONE) {
                firstStarved = c;
            }
        }

        private void goWild(int[] s) {
            born = 0;
            firstWild = NONE;
            int there = s[COUNT];
            for (int c = 0; c < there; c++) {
                if (s[LIVES + c] == 1 && s[FAT + c] > s[MOST + c]) {
                    s[FAT + c] /= 2;
                    if (firstWild == NONE) {
                        firstWild = c;
                    }
                    if (s[COUNT] < CLOCKS) {
                        bear(s, c);
                    }
                }
            }
        }

        private void bear(int[] s, int mother) {
            int c = s[COUNT];
            s[ROOM + c] = s[ROOM + mother];
            s[HUNGER + c] = s[HUNGER + mother];
            s[FAT + c] = s[FAT + mother];
            s[MOST + c] = s[MOST + mother];
            s[STRIKE + c] = s[STRIKE + mother];
            s[KIND + c] = (s[KIND + mother] + s[KIND + mate(s, mother)]) % KINDS;
            s[FACES + c] = NONE;
            s[LIVES + c] = 1;
            s[EATEN + c] = 0;
            s[STRUCK + c] = 0;
            s[LOST + c] = 0;
            s[PAINTED + c] = 0;
            s[MARK + c] = s[HOUR] + 1;
            s[LIVED + c] = 0;
            s[MOTHER + c] = mother;
            s[LURE + c] = 0;
            s[COUNT]++;
            born++;
        }

        private static int mate(int[] s, int mother) {
            for (int c = 0; c < s[COUNT]; c++) {
                if (c != mother && s[LIVES + c] == 1 && s[ROOM + c] == s[ROOM + mother]) {
                    return c;
                }
            }
            return mother;
        }
    }

    /** What was: rows to which ACTS can be UNDONE, what is put by of HOURS, the IMAGE. */
    private static final class Past {
        // As many more as can be UNDONE are kept: the latest ones are to be there even then.
        private static final int LOGGED = HOURS_PUT_BY + ACTS;

        final int[][] rows = new int[ACTS][SIZE];
        final boolean[] wasHour = new boolean[ACTS];
        final int[] put = new int[LOGGED * 4];
        final int[] image = new int[SIZE];
        boolean hasImage = false;
        int acts = 0;
        int oldest = 0;
        int logged = 0;
        int nextPut = 0;

        void forget() {
            acts = 0;
            logged = 0;
            hasImage = false;
        }

        void keep(int[] now, boolean isHour) {
            int at = (oldest + acts) % ACTS;
            System.arraycopy(now, 0, rows[at], 0, SIZE);
            wasHour[at] = isHour;
            if (acts < ACTS) {
                acts++;
            } else {
                oldest = (oldest + 1) % ACTS;
            }
        }

        int takeBack(int[] now) {
            if (acts == 0) {
                return NONE;
            }
            acts--;
            int at = (oldest + acts) % ACTS;
            System.arraycopy(rows[at], 0, now, 0, SIZE);
            if (wasHour[at] && logged > 0) {
                logged--;
                nextPut = (nextPut + LOGGED - 1) % LOGGED;
            }
            return acts;
        }

        void putBy(Hours hours) {
            int at = nextPut * 4;
            put[at] = hours.eaten;
            put[at + 1] = hours.strikes;
            put[at + 2] = hours.starved;
            put[at + 3] = hours.born;
            nextPut = (nextPut + 1) % LOGGED;
            logged = Math.min(LOGGED, logged + 1);
        }

        int hoursPutBy() {
            return Math.min(HOURS_PUT_BY, logged);
        }

        int told(int i, int what) {
            if (i < 0 || i >= hoursPutBy() || what < 0 || what > 3) {
                return NONE;
            }
            return put[(nextPut + LOGGED - 1 - i) % LOGGED * 4 + what];
        }

        void keepImage(int[] now) {
            System.arraycopy(now, 0, image, 0, SIZE);
            hasImage = true;
        }

        boolean restore(int[] now) {
            if (!hasImage) {
                return false;
            }
            System.arraycopy(image, 0, now, 0, SIZE);
            acts = 0;
            return true;
        }
    }

    /** CROWDS: who is SENT where by draws. */
    private static final class Crowd {
        int below = 0;
        long x = 0;

        void scatter(int[] s, Plan plan) {
            for (int p = 0; p < plan.persons; p++) {
                if (draw(100) < below) {
                    s[SENT + p] = draw(plan.rooms);
                }
            }
        }

        private int draw(int m) {
            x = x * 6364136223846793005L + 1442695040888963407L;
            return m > 0 ? (int) ((x >>> 33) % m) : 0;
        }
    }

    /** What is ahead, tried apart on a row of its own. */
    private static final class Future {
        final Plan plan;
        final Hours hours;
        final int[] s = new int[SIZE];
        final int[] ones = new int[LURES * LURES];
        final int[] others = new int[LURES * LURES];
        int which = NONE;
        int most = 0;

        Future(Plan plan, Hours hours) {
            this.plan = plan;
            this.hours = hours;
        }

        void begin(int[] now) {
            System.arraycopy(now, 0, s, 0, SIZE);
        }

        private void pass(int n) {
            for (int i = 0; i < n; i++) {
                hours.pass(s);
            }
        }

        int fat(int[] now, int clock, int n) {
            begin(now);
            pass(n);
            return clock < s[COUNT] ? s[FAT + clock] : 0;
        }

        /** From where it began, the HOUR in which the first STARVES or goes WILD, and which. */
        int first(int n, boolean wild) {
            for (int hour = 1; hour <= n; hour++) {
                hours.pass(s);
                which = wild ? hours.firstWild : hours.firstStarved;
                if (which != NONE) {
                    return hour;
                }
            }
            which = NONE;
            return NONE;
        }

        int fullBehind(int[] now) {
            begin(now);
            for (int n = 0; n < HOURS_AHEAD; n++) {
                if (s[COUNT] == CLOCKS) {
                    return n;
                }
                hours.pass(s);
            }
            return s[COUNT] == CLOCKS ? HOURS_AHEAD : NONE;
        }

        int livingOf(int[] now, int kind, int n) {
            begin(now);
            pass(n);
            int living = 0;
            for (int c = 0; c < s[COUNT]; c++) {
                if (s[KIND + c] == kind) {
                    living += s[LIVES + c];
                }
            }
            return living;
        }

        int laterBy(int[] now, int person) {
            begin(now);
            int without = first(HOURS_AHEAD, false);
            begin(now);
            s[EYES + person]++;
            int with = first(HOURS_AHEAD, false);
            return (with == NONE ? HOURS_AHEAD + 1 : with) - (without == NONE ? HOURS_AHEAD + 1 : without);
        }

        /** Which one is to be PAINTED that the most live, and how many do. */
        void spare(int[] now, int n) {
            which = NONE;
            most = 0;
            for (int c = 0; c < now[COUNT]; c++) {
                if (now[LIVES + c] == 1) {
                    begin(now);
                    s[PAINTED + c] = 1;
                    pass(n);
                    int living = Hours.living(s);
                    if (which == NONE || living > most) {
                        which = c;
                        most = living;
                    }
                }
            }
        }

        int nextLook(int[] now, int person) {
            begin(now);
            return hours.look(s, person);
        }

        /** What both owners gain by each two LURES; the one's is the higher digit to base 4. */
        void play(int[] now, int one, int other, int n, int price) {
            for (int both = 0; both < LURES * LURES; both++) {
                begin(now);
                s[LURE + one] = both / LURES;
                s[LURE + other] = both % LURES;
                ones[both] = -price * (both / LURES);
                others[both] = -price * (both % LURES);
                for (int i = 0; i < n; i++) {
                    hours.pass(s);
                    ones[both] += 10 * hours.ate[one];
                    others[both] += 10 * hours.ate[other];
                }
            }
        }

        int rests(int i) {
            int found = 0;
            for (int both = 0; both < LURES * LURES; both++) {
                if (isRest(both / LURES, both % LURES)) {
                    if (found == i) {
                        return digits(both, LURES, 2);
                    }
                    found++;
                }
            }
            return i == NONE ? found : NONE;
        }

        private boolean isRest(int one, int other) {
            int at = one * LURES + other;
            for (int lure = 0; lure < LURES; lure++) {
                if (ones[lure * LURES + other] > ones[at] || others[one * LURES + lure] > others[at]) {
                    return false;
                }
            }
            return true;
        }
    }

    /** ROTA, FEWEST and HANG: all rows of ROOMS are tried, apart. */
    private static final class Search {
        final Plan plan;
        final Hours hours;
        final int[] s = new int[SIZE];
        int way = NONE;
        int most = 0;

        Search(Plan plan, Hours hours) {
            this.plan = plan;
            this.hours = hours;
        }

        /** Whether from the row on none STARVES and none goes WILD. */
        private boolean lasts(int n) {
            for (int i = 0; i < n; i++) {
                hours.pass(s);
                if (hours.starved > 0 || hours.firstWild != NONE) {
                    return false;
                }
            }
            return true;
        }

        /** The PERSONS of a set are SENT by the digits of a row, the others are as if BLIND. */
        private void sendSet(int[] now, int set, int row) {
            System.arraycopy(now, 0, s, 0, SIZE);
            int rest = row;
            for (int p = plan.persons - 1; p >= 0; p--) {
                if ((set & 1 << p) == 0) {
                    s[BLIND + p] = 1;
                } else if (plan.rooms > 0) {
                    s[SENT + p] = rest % plan.rooms;
                    rest /= plan.rooms;
                }
            }
        }

        int rotas(int[] now, int n, int i) {
            int all = (1 << plan.persons) - 1;
            int rows = power(plan.rooms, plan.persons);
            int found = 0;
            for (int row = 0; row < rows; row++) {
                sendSet(now, all, row);
                if (lasts(n)) {
                    if (found == i) {
                        return digits(row, plan.rooms, plan.persons);
                    }
                    found++;
                }
            }
            return i == NONE ? found : NONE;
        }

        int fewestLookers(int[] now, int n) {
            for (int size = 0; size <= plan.persons; size++) {
                int rows = power(plan.rooms, size);
                for (int set = 0; set < 1 << plan.persons; set++) {
                    boolean tried = Integer.bitCount(set) == size && !hasBlind(now, set);
                    for (int row = 0; tried && row < rows; row++) {
                        sendSet(now, set, row);
                        if (lasts(n)) {
                            return set;
                        }
                    }
                }
            }
            return NONE;
        }

        /** With a BLIND one in it a set does no more than without: a smaller one is ahead of it. */
        private boolean hasBlind(int[] now, int set) {
            for (int p = 0; p < plan.persons; p++) {
                if ((set & 1 << p) != 0 && now[BLIND + p] == 1) {
                    return true;
                }
            }
            return false;
        }

        /** By which way of hanging the living ones the most live behind n HOURS, and how many. */
        void bestWay(int[] now, int n) {
            int living = Hours.living(now);
            int ways = power(plan.rooms, living);
            way = NONE;
            most = 0;
            for (int i = 0; i < ways; i++) {
                hangAll(now, i);
                int left = livingBehind(n, way == NONE ? NONE : most);
                if (left > most || way == NONE) {
                    way = digits(i, plan.rooms, living);
                    most = left;
                }
            }
        }

        private void hangAll(int[] now, int hung) {
            System.arraycopy(now, 0, s, 0, SIZE);
            int rest = hung;
            for (int c = s[COUNT] - 1; c >= 0; c--) {
                if (s[LIVES + c] == 1 && plan.rooms > 0) {
                    s[ROOM + c] = rest % plan.rooms;
                    rest /= plan.rooms;
                }
            }
        }

        /** How many live behind n HOURS; it need not be found out once it can't be more than enough. */
        private int livingBehind(int n, int enough) {
            for (int i = 0; i < n; i++) {
                hours.pass(s);
                if (hours.starved > 0 && Hours.living(s) + CLOCKS - s[COUNT] <= enough) {
                    return enough;
                }
            }
            return Hours.living(s);
        }
    }

    /** What is HEARD, and THIEF. */
    private static final class Ears {
        final Plan plan;
        final Hours hours;
        final int[] s = new int[SIZE];
        final int[] heardIn = new int[HEARD];
        final int[] heard = new int[HEARD];
        int count = 0;

        Ears(Plan plan, Hours hours) {
            this.plan = plan;
            this.hours = hours;
        }

        int hold(int hour, int strikes) {
            if (count >= HEARD) {
                return NONE;
            }
            heardIn[count] = hour;
            heard[count] = strikes;
            count++;
            return count;
        }

        int ways(int[] now, int person, int n, int i) {
            int rows = power(plan.rooms, n);
            int found = 0;
            for (int row = 0; row < rows; row++) {
                if (fits(now, person, n, row)) {
                    if (found == i) {
                        return digits(row, plan.rooms, n);
                    }
                    found++;
                }
            }
            return i == NONE ? found : NONE;
        }

        private boolean fits(int[] now, int person, int n, int row) {
            System.arraycopy(now, 0, s, 0, SIZE);
            int last = lastHeard();
            for (int hour = 1; hour <= last; hour++) {
                s[SENT + person] = hour <= n ? roomOf(row, n - hour) : now[SENT + person];
                hours.pass(s);
                if (!agrees(hour)) {
                    return false;
                }
            }
            return true;
        }

        private int roomOf(int row, int place) {
            int unit = power(plan.rooms, place);
            return unit > 0 && plan.rooms > 0 ? row / unit % plan.rooms : 0;
        }

        private int lastHeard() {
            int last = 0;
            for (int i = 0; i < count; i++) {
                last = Math.max(last, heardIn[i]);
            }
            return last;
        }

        private boolean agrees(int hour) {
            for (int i = 0; i < count; i++) {
                if (heardIn[i] == hour && heard[i] != hours.strikes) {
                    return false;
                }
            }
            return true;
        }
    }
}
