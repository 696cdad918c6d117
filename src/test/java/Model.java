import java.util.ArrayList;
import java.util.Arrays;
import java.util.HashSet;
import java.util.List;
import java.util.Set;

/**
 * The document once more, told slowly and in another way than the program tells it: objects and
 * lists that are copied whole, texts that are told right or wrong by all ways in which they could
 * go on. RandomTest asks both the same.
 */
final class Model {
    static final int NONE = -1;
    static final int HIDDEN = -1000000;

    static final class Clock implements Cloneable {
        int room, hunger = 1, fat = 10, most = 40, strike = 8, kind, faces = NONE, mother = NONE;
        boolean lives = true, painted;
        int eaten, struck, lost, lived, lure, ate;
        int since;

        Clock copy() {
            try {
                return (Clock) clone();
            } catch (CloneNotSupportedException e) {
                throw new AssertionError(e);
            }
        }
    }

    static final class Person implements Cloneable {
        int eyes = 2, place, sent = NONE;
        boolean blind;
        List<Integer> way = new ArrayList<>();

        Person copy() {
            try {
                return (Person) clone();
            } catch (CloneNotSupportedException e) {
                throw new AssertionError(e);
            }
        }
    }

    static final class House {
        List<Integer> sees = new ArrayList<>();
        List<Clock> clocks = new ArrayList<>();
        List<Person> persons = new ArrayList<>();
        int hour, allEaten, allStrikes;

        House copy() {
            House h = new House();
            h.sees = sees;
            for (Clock c : clocks) h.clocks.add(c.copy());
            for (Person p : persons) h.persons.add(p.copy());
            h.hour = hour;
            h.allEaten = allEaten;
            h.allStrikes = allStrikes;
            return h;
        }

        int living() {
            return (int) clocks.stream().filter(c -> c.lives).count();
        }
    }

    static final class Report {
        int eaten, strikes, starved, born, firstStarved = NONE, firstWild = NONE;
    }

    record Act(House before, boolean hour) { }

    final List<Integer> tape = new ArrayList<>();
    final List<String> tastes = new ArrayList<>();
    int holds = NONE, crowd;
    House house;
    final List<Act> acts = new ArrayList<>();
    final List<Report> log = new ArrayList<>();
    House image;
    final List<int[]> heard = new ArrayList<>();

    // ---- the tape

    int feed(int... words) {
        List<Integer> more = new ArrayList<>();
        for (int w : words)
            for (byte b : java.nio.ByteBuffer.allocate(4).putInt(w).array())
                if (b != 0) more.add(b & 255);
        if (tape.size() + more.size() > 240) return NONE;
        tape.addAll(more);
        return tape.size();
    }

    boolean end(int n) {
        if (n < 0 || n > tape.size()) return false;
        while (tape.size() > n) tape.remove(tape.size() - 1);
        return true;
    }

    String tapeText() {
        StringBuilder b = new StringBuilder();
        for (int i : tape) b.append((char) i);
        return b.toString();
    }

    int fault(int sort) {
        if (sort == 0) return houseFault(tapeText());
        if (sort == 1) return tasteFault(tapeText());
        return -2;
    }

    int text(int sort) {
        if (sort != 0 && sort != 1 || fault(sort) != NONE) return NONE;
        if (sort == 1) {
            if (tastes.size() == 4) return NONE;
            tastes.add(tapeText().replace(" ", ""));
            tape.clear();
            return tastes.size() - 1;
        }
        house = houseOf(tapeText().replace(" ", ""));
        tape.clear();
        acts.clear();
        log.clear();
        heard.clear();
        image = null;
        return house.clocks.size();
    }

    // ---- a HOUSE: signs one by one, by what may come next

    static int houseFault(String t) {
        int at = 0, rooms = 0, clocks = 0, persons = 0;
        // what may come: 0 a clause, 1 an item or what ends it, 2 a number, 3 a first digit of a WAY, 4 more of a WAY or its end
        int may = 0, ways = 0;
        char clause = 0, item = 0;
        Set<Character> had = new HashSet<>();
        while (at < t.length()) {
            char s = t.charAt(at);
            if (s == ' ') {
                at++;
                continue;
            }
            if (may == 0) {
                if (s == 'r' && rooms < 5) rooms++;
                else if (s == 'c' && clocks < 6) clocks++;
                else if (s == 'p' && persons < 6) persons++;
                else return at;
                clause = s;
                had.clear();
                may = 1;
                at++;
            } else if (may == 1) {
                if (s == ';') may = 0;
                else if (s == ':' && clause == 'p') {
                    may = 3;
                    ways = 0;
                } else {
                    String letters = clause == 'r' ? "s" : clause == 'c' ? "rhfmtkz" : "eb";
                    if (letters.indexOf(s) < 0 || !had.add(s)) return at;
                    item = s;
                    may = 2;
                }
                at++;
            } else if (may == 2) {
                int from = at;
                while (at < t.length() && t.charAt(at) >= '0' && t.charAt(at) <= '9') at++;
                if (at == from) return from;
                if (at - from > 2) return from + 2;
                int[] b = bounds(clause, item);
                int v = Integer.parseInt(t.substring(from, at));
                if (v < b[0] || v > b[1]) return at - 1;
                may = 1;
            } else {
                if (may == 4 && s == ';') may = 0;
                else if (s < '0' || s > '4' || ++ways > 8) return at;
                else may = 4;
                at++;
            }
        }
        if (may == 0 || may == 2 || may == 3 || rooms == 0 || clocks == 0 || persons == 0) return t.length();
        return isWhole(houseOf(t.replace(" ", ""))) ? NONE : t.length();
    }

    static int[] bounds(char clause, char item) {
        if (clause == 'r') return new int[] {0, 5};
        if (clause == 'p') return item == 'e' ? new int[] {0, 9} : new int[] {0, 1};
        switch (item) {
            case 'r': return new int[] {0, 4};
            case 'h': return new int[] {0, 9};
            case 'k': return new int[] {0, 3};
            case 'z': return new int[] {0, 6};
            default: return new int[] {1, 99};
        }
    }

    static House houseOf(String t) {
        House h = new House();
        for (String clause : t.split(";")) {
            String items = clause.substring(1);
            String way = "";
            if (items.contains(":")) {
                way = items.substring(items.indexOf(':') + 1);
                items = items.substring(0, items.indexOf(':'));
            }
            Clock c = new Clock();
            Person p = new Person();
            int sees = 5;
            java.util.regex.Matcher m = java.util.regex.Pattern.compile("([a-z])([0-9]+)").matcher(items);
            while (m.find()) {
                int v = Integer.parseInt(m.group(2));
                switch (clause.charAt(0) + m.group(1)) {
                    case "rs": sees = v; break;
                    case "cr": c.room = v; break;
                    case "ch": c.hunger = v; break;
                    case "cf": c.fat = v; break;
                    case "cm": c.most = v; break;
                    case "ct": c.strike = v; break;
                    case "ck": c.kind = v; break;
                    case "cz": c.faces = v == 6 ? NONE : v; break;
                    case "pe": p.eyes = v; break;
                    case "pb": p.blind = v == 1; break;
                    default: throw new AssertionError(clause);
                }
            }
            for (char d : way.toCharArray()) p.way.add(d - '0');
            if (clause.charAt(0) == 'r') h.sees.add(sees == 5 ? NONE : sees);
            if (clause.charAt(0) == 'c') h.clocks.add(c);
            if (clause.charAt(0) == 'p') h.persons.add(p);
        }
        return h;
    }

    static boolean isWhole(House h) {
        for (int s : h.sees) if (s >= h.sees.size()) return false;
        for (int i = 0; i < h.clocks.size(); i++) {
            Clock c = h.clocks.get(i);
            if (c.room >= h.sees.size() || c.faces >= h.clocks.size() || c.faces == i) return false;
        }
        for (Person p : h.persons) for (int r : p.way) if (r >= h.sees.size()) return false;
        return true;
    }

    // ---- a TASTE: all ways to go on at once (Earley's), from the grammar as it is told

    static final List<String[]> RULES = new ArrayList<>();

    private static void rule(String left, String... right) {
        String[] r = new String[right.length + 1];
        r[0] = left;
        System.arraycopy(right, 0, r, 1, right.length);
        RULES.add(r);
    }

    static {
        // '_' is any number of blanks behind a sign; a nonterminal has more than one letter
        rule("TEXT", "_", "TEXT2");
        rule("TEXT2", "CLAUSE");
        rule("TEXT2", "TEXT2", ";", "_", "CLAUSE");
        rule("CLAUSE", "y", "_", ":", "_", "SUM0");
        rule("CLAUSE", "y", "_", ":", "_", "COND0", "?", "_", "SUM0");
        rule("_");
        rule("_", "_", " ");
        for (int d = 0; d <= 6; d++) {
            rule("COND" + d, "TRUTH" + d);
            rule("COND" + d, "COND" + d, "|", "_", "TRUTH" + d);
            rule("TRUTH" + d, "UNIT" + d);
            rule("TRUTH" + d, "TRUTH" + d, "&", "_", "UNIT" + d);
            if (d < 6) rule("UNIT" + d, "!", "_", "UNIT" + (d + 1));
            if (d < 6) rule("UNIT" + d, "(", "_", "COND" + (d + 1), ")", "_");
            for (String s : new String[] {"=", "<", ">"}) rule("UNIT" + d, "SUM" + d, s, "_", "SUM" + d);
            rule("SUM" + d, "TERM" + d);
            for (String s : new String[] {"+", "-"}) rule("SUM" + d, "SUM" + d, s, "_", "TERM" + d);
            rule("TERM" + d, "ATOM" + d);
            for (String s : new String[] {"*", "/"}) rule("TERM" + d, "TERM" + d, s, "_", "ATOM" + d);
            if (d < 6) rule("ATOM" + d, "[", "_", "SUM" + (d + 1), "]", "_");
            rule("ATOM" + d, "DD", "_");
            rule("ATOM" + d, "DD", "DD", "_");
            rule("ATOM" + d, "DD", "DD", "DD", "_");
            rule("ATOM" + d, "DD", "DD", "DD", "DD", "_");
            for (char c : "fhskdp".toCharArray()) rule("ATOM" + d, "" + c, "_");
        }
        for (char c = '0'; c <= '9'; c++) rule("DD", "" + c);
    }

    record State(int rule, int dot, int from) { }

    static int tasteFault(String t) {
        List<Set<State>> sets = new ArrayList<>();
        Set<State> first = new java.util.LinkedHashSet<>();
        first.add(new State(0, 0, 0));
        sets.add(first);
        complete(sets, 0);
        for (int i = 0; i < t.length(); i++) {
            Set<State> next = new java.util.LinkedHashSet<>();
            for (State s : sets.get(i)) {
                String[] r = RULES.get(s.rule);
                if (s.dot + 1 < r.length && r[s.dot + 1].equals("" + t.charAt(i)) && !r[s.dot + 1].equals("_"))
                    next.add(new State(s.rule, s.dot + 1, s.from));
            }
            if (next.isEmpty()) return i;
            sets.add(next);
            complete(sets, i + 1);
        }
        for (State s : sets.get(t.length()))
            if (s.rule == 0 && s.from == 0 && s.dot + 1 == RULES.get(0).length) return NONE;
        return t.length();
    }

    private static void complete(List<Set<State>> sets, int at) {
        List<State> todo = new ArrayList<>(sets.get(at));
        Set<State> set = sets.get(at);
        for (int i = 0; i < todo.size(); i++) {
            State s = todo.get(i);
            String[] r = RULES.get(s.rule);
            List<State> more = new ArrayList<>();
            if (s.dot + 1 == r.length) {
                for (State w : new ArrayList<>(sets.get(s.from))) {
                    String[] wr = RULES.get(w.rule);
                    if (w.dot + 1 < wr.length && wr[w.dot + 1].equals(r[0])) more.add(new State(w.rule, w.dot + 1, w.from));
                }
            } else {
                for (int k = 0; k < RULES.size(); k++)
                    if (RULES.get(k)[0].equals(r[s.dot + 1])) more.add(new State(k, 0, at));
                // what may be empty may be passed over at once
                if (r[s.dot + 1].equals("_")) more.add(new State(s.rule, s.dot + 1, s.from));
            }
            for (State m : more) if (set.add(m)) todo.add(m);
        }
    }

    // ---- WORTH, from the text (without blanks), cut at the weakest sign

    static int worth(String taste, int... letters) {
        for (String clause : taste.split(";")) {
            String body = clause.substring(2);
            int q = body.indexOf('?');
            if (q < 0) return value(body, letters);
            if (holds(body.substring(0, q), letters)) return value(body.substring(q + 1), letters);
        }
        return 0;
    }

    static boolean holds(String c, int[] letters) {
        int cut = lastOutside(c, "|");
        if (cut >= 0) return holds(c.substring(0, cut), letters) | holds(c.substring(cut + 1), letters);
        cut = lastOutside(c, "&");
        if (cut >= 0) return holds(c.substring(0, cut), letters) & holds(c.substring(cut + 1), letters);
        if (c.startsWith("!")) return !holds(c.substring(1), letters);
        if (c.startsWith("(")) return holds(c.substring(1, c.length() - 1), letters);
        cut = lastOutside(c, "=<>");
        int a = value(c.substring(0, cut), letters), b = value(c.substring(cut + 1), letters);
        return c.charAt(cut) == '=' ? a == b : c.charAt(cut) == '<' ? a < b : a > b;
    }

    static int value(String s, int[] letters) {
        int cut = lastOutside(s, "+-");
        if (cut < 0) cut = lastOutside(s, "*/");
        if (cut >= 0) {
            java.math.BigInteger a = java.math.BigInteger.valueOf(value(s.substring(0, cut), letters));
            java.math.BigInteger b = java.math.BigInteger.valueOf(value(s.substring(cut + 1), letters));
            java.math.BigInteger r;
            switch (s.charAt(cut)) {
                case '+': r = a.add(b); break;
                case '-': r = a.subtract(b); break;
                case '*': r = a.multiply(b); break;
                default: r = b.signum() == 0 ? b : a.divide(b);
            }
            java.math.BigInteger most = java.math.BigInteger.valueOf(1000000);
            return r.min(most).max(most.negate()).intValue();
        }
        if (s.startsWith("[")) return value(s.substring(1, s.length() - 1), letters);
        int letter = "fhskdp".indexOf(s.charAt(0));
        return letter >= 0 ? letters[letter] : Integer.parseInt(s);
    }

    static int lastOutside(String s, String signs) {
        int depth = 0;
        for (int i = s.length() - 1; i >= 0; i--) {
            char c = s.charAt(i);
            if (c == ')' || c == ']') depth++;
            if (c == '(' || c == '[') depth--;
            if (depth == 0 && signs.indexOf(c) >= 0) return i;
        }
        return -1;
    }

    // ---- an HOUR

    static boolean still(House h, Clock c) {
        if (!c.lives || c.faces == NONE) return false;
        Clock f = h.clocks.get(c.faces);
        return f.lives && f.faces != NONE && h.clocks.get(f.faces) == c;
    }

    List<Clock> couldLook(House h, int room) {
        List<Clock> list = new ArrayList<>();
        for (Clock c : h.clocks)
            if (c.lives && !still(h, c) && (c.room == room || c.room == h.sees.get(room))) list.add(c);
        return list;
    }

    void step1(House h) {
        for (Person p : h.persons) {
            if (p.sent != NONE) p.place = p.sent;
            else if (!p.way.isEmpty()) p.place = p.way.get(h.hour % p.way.size());
        }
    }

    Clock chosen(House h, int person) {
        Person p = h.persons.get(person);
        if (p.blind) return null;
        Clock best = null;
        long most = 0;
        for (Clock c : couldLook(h, p.place)) {
            long w = holds == NONE ? 100 - c.fat
                : worth(tastes.get(holds), c.fat, c.hunger, c.since, c.kind, c.room == p.place ? 0 : 1, person);
            w += 10L * c.lure;
            if (best == null || w > most) {
                best = c;
                most = w;
            }
        }
        return best;
    }

    Report hour(House h) {
        Report r = new Report();
        step1(h);
        for (Clock c : h.clocks) c.ate = 0;
        for (int p = 0; p < h.persons.size(); p++) {
            Clock c = chosen(h, p);
            if (c != null && !c.painted) c.ate += h.persons.get(p).eyes;
        }
        List<Clock> lived = new ArrayList<>();
        for (int i = 0; i < h.clocks.size(); i++) {
            Clock c = h.clocks.get(i);
            c.since++;
            if (!c.lives) continue;
            lived.add(c);
            c.lived++;
            r.eaten += c.ate;
            c.fat = c.fat + c.ate - c.hunger;
            if (c.fat <= 0) {
                c.fat = 0;
                c.lives = false;
                r.starved++;
                if (r.firstStarved == NONE) r.firstStarved = i;
            } else {
                c.eaten += c.ate;
                while (c.eaten >= c.strike) {
                    c.eaten -= c.strike;
                    c.struck++;
                    c.since = 0;
                    r.strikes++;
                }
            }
            c.lost += c.fat / 10;
        }
        for (Clock c : lived) {
            if (!c.lives || c.fat <= c.most) continue;
            if (r.firstWild == NONE) r.firstWild = h.clocks.indexOf(c);
            c.fat = c.fat / 2;
            if (h.clocks.size() < 10) {
                Clock other = c;
                for (Clock o : h.clocks)
                    if (o != c && o.lives && o.room == c.room) {
                        other = o;
                        break;
                    }
                Clock b = new Clock();
                b.room = c.room;
                b.hunger = c.hunger;
                b.most = c.most;
                b.strike = c.strike;
                b.fat = c.fat;
                b.kind = (c.kind + other.kind) % 4;
                b.mother = h.clocks.indexOf(c);
                h.clocks.add(b);
                r.born++;
            }
        }
        h.hour++;
        h.allEaten += r.eaten;
        h.allStrikes += r.strikes;
        return r;
    }

    // ---- the face

    boolean isClock(int c) {
        return house != null && c >= 0 && c < house.clocks.size();
    }

    boolean isLiving(int c) {
        return isClock(c) && house.clocks.get(c).lives;
    }

    boolean isPerson(int p) {
        return house != null && p >= 0 && p < house.persons.size();
    }

    boolean isRoom(int r) {
        return house != null && r >= 0 && r < house.sees.size();
    }

    static boolean out(int n, int least, int most) {
        return n < least || n > most;
    }

    /** null: NoSuchElementException. */
    Integer clock(int clock, int what) {
        if (!isClock(clock)) return null;
        Clock c = house.clocks.get(clock);
        switch (what) {
            case 0: return c.room;
            case 1: return c.hunger;
            case 2: return c.fat;
            case 3: return c.most;
            case 4: return c.strike;
            case 5: return c.kind;
            case 6: return c.faces;
            case 7: return c.lives ? 1 : 0;
            case 8: return c.eaten;
            case 9: return c.struck;
            case 10: return c.lost;
            case 11: return c.painted ? 1 : 0;
            case 12: return c.since;
            default: return null;
        }
    }

    int person(int person, int what) {
        if (!isPerson(person)) return NONE;
        Person p = house.persons.get(person);
        int[] told = {p.eyes, p.blind ? 1 : 0, p.place, p.sent == NONE ? 0 : 1, p.way.size()};
        return out(what, 0, 4) ? NONE : told[what];
    }

    int sees(int room) {
        return isRoom(room) ? house.sees.get(room) : NONE;
    }

    boolean taste(int t) {
        if (out(t, NONE, tastes.size() - 1)) return false;
        holds = t;
        return true;
    }

    boolean crowd(int v) {
        if (out(v, 0, 99) || v == crowd) return false;
        crowd = v;
        return true;
    }

    void act(boolean hour) {
        acts.add(new Act(house.copy(), hour));
        if (acts.size() > 40) acts.remove(0);
    }

    int go(int n) {
        if (house == null || out(n, 1, 60)) return NONE;
        for (int i = 0; i < n; i++) {
            act(true);
            log.add(hour(house));
        }
        return house.hour;
    }

    int crowds(int n, long seed) {
        if (house == null || out(n, 1, 60)) return NONE;
        long[] x = {seed};
        for (int i = 0; i < n; i++) {
            act(true);
            for (Person p : house.persons)
                if (draw(x, 100) < crowd) p.sent = draw(x, house.sees.size());
            log.add(hour(house));
        }
        return house.hour;
    }

    private static int draw(long[] x, int m) {
        java.math.BigInteger two64 = java.math.BigInteger.ONE.shiftLeft(64);
        java.math.BigInteger v = new java.math.BigInteger(Long.toUnsignedString(x[0]))
            .multiply(new java.math.BigInteger("6364136223846793005"))
            .add(new java.math.BigInteger("1442695040888963407")).mod(two64);
        x[0] = v.longValue();
        return v.shiftRight(33).mod(java.math.BigInteger.valueOf(m)).intValue();
    }

    int send(int p, int room) {
        if (!isPerson(p) || room != NONE && !isRoom(room) || house.persons.get(p).sent == room) return NONE;
        act(false);
        house.persons.get(p).sent = room;
        return acts.size();
    }

    int blind(int p, boolean is) {
        if (!isPerson(p) || house.persons.get(p).blind == is) return NONE;
        act(false);
        house.persons.get(p).blind = is;
        return acts.size();
    }

    int hang(int c, int room) {
        if (!isLiving(c) || !isRoom(room) || house.clocks.get(c).room == room) return NONE;
        act(false);
        house.clocks.get(c).room = room;
        return acts.size();
    }

    int face(int c, int other) {
        if (!isLiving(c) || other != NONE && !isClock(other) || other == c || house.clocks.get(c).faces == other) return NONE;
        act(false);
        house.clocks.get(c).faces = other;
        return acts.size();
    }

    int wind(int c, int by) {
        if (!isLiving(c) || out(by, 1, 20)) return NONE;
        act(false);
        Clock k = house.clocks.get(c);
        k.fat = Math.min(99, k.fat + by);
        return k.fat;
    }

    int paint(int c, boolean is) {
        if (!isLiving(c) || house.clocks.get(c).painted == is) return NONE;
        act(false);
        house.clocks.get(c).painted = is;
        return acts.size();
    }

    int undo() {
        if (acts.isEmpty()) return NONE;
        Act a = acts.remove(acts.size() - 1);
        house = a.before;
        if (a.hour) log.remove(log.size() - 1);
        return acts.size();
    }

    int log(int i, int what) {
        if (out(i, 0, Math.min(60, log.size()) - 1) || out(what, 0, 3)) return NONE;
        Report r = log.get(log.size() - 1 - i);
        return new int[] {r.eaten, r.strikes, r.starved, r.born}[what];
    }

    int ahead(int c, int n) {
        if (house == null || out(c, 0, 9) || out(n, 0, 60)) return NONE;
        House h = behind(n);
        return c < h.clocks.size() && h.clocks.get(c).lives ? h.clocks.get(c).fat : 0;
    }

    House behind(int n) {
        House h = house.copy();
        for (int i = 0; i < n; i++) hour(h);
        return h;
    }

    int[] first(House from, int n, boolean wild) {
        House h = from.copy();
        for (int i = 1; i <= n; i++) {
            Report r = hour(h);
            int which = wild ? r.firstWild : r.firstStarved;
            if (which != NONE) return new int[] {which, i};
        }
        return new int[] {NONE, NONE};
    }

    int starves(int n, int what) {
        if (house == null || out(n, 1, 60) || out(what, 0, 1)) return NONE;
        return first(house, n, false)[what];
    }

    int wild(int n, int what) {
        if (house == null || out(n, 1, 60) || out(what, 0, 1)) return NONE;
        return first(house, n, true)[what];
    }

    int full() {
        if (house == null) return NONE;
        for (int n = 0; n <= 60; n++) if (behind(n).clocks.size() == 10) return n;
        return NONE;
    }

    int kinds(int kind, int n) {
        if (house == null || out(kind, 0, 3) || out(n, 0, 60)) return NONE;
        return (int) behind(n).clocks.stream().filter(c -> c.lives && c.kind == kind).count();
    }

    /** All rows of so many digits below a base, rising. */
    static List<int[]> rows(int base, int n) {
        List<int[]> all = new ArrayList<>();
        all.add(new int[0]);
        for (int i = 0; i < n; i++) {
            List<int[]> longer = new ArrayList<>();
            for (int[] row : all)
                for (int d = 0; d < base; d++) {
                    int[] more = Arrays.copyOf(row, row.length + 1);
                    more[row.length] = d;
                    longer.add(more);
                }
            all = longer;
        }
        return all;
    }

    static int number(int[] row) {
        int n = 0;
        for (int d : row) n = 10 * n + d;
        return n;
    }

    static int ith(List<Integer> list, int i) {
        if (i == NONE) return list.size();
        return out(i, 0, list.size() - 1) ? NONE : list.get(i);
    }

    boolean quiet(House h, int n) {
        for (int i = 0; i < n; i++) {
            Report r = hour(h);
            if (r.firstWild != NONE || r.firstStarved != NONE) return false;
        }
        return true;
    }

    int rota(int n, int i) {
        if (house == null || out(n, 1, 12)) return NONE;
        List<Integer> found = new ArrayList<>();
        for (int[] row : rows(house.sees.size(), house.persons.size())) {
            House h = house.copy();
            for (int p = 0; p < row.length; p++) h.persons.get(p).sent = row[p];
            if (quiet(h, n)) found.add(number(row));
        }
        return ith(found, i);
    }

    int fewest(int n) {
        if (house == null || out(n, 1, 12)) return NONE;
        int best = NONE;
        for (int set = 0; set < 1 << house.persons.size(); set++) {
            if (best != NONE && Integer.bitCount(set) >= Integer.bitCount(best)) continue;
            List<Integer> in = new ArrayList<>();
            for (int p = 0; p < house.persons.size(); p++) if ((set >> p & 1) == 1) in.add(p);
            for (int[] row : rows(house.sees.size(), in.size())) {
                House h = house.copy();
                for (int p = 0; p < h.persons.size(); p++) if (!in.contains(p)) h.persons.get(p).blind = true;
                for (int k = 0; k < row.length; k++) h.persons.get(in.get(k)).sent = row[k];
                if (quiet(h, n)) {
                    best = set;
                    break;
                }
            }
        }
        return best;
    }

    int best(int n, int what) {
        if (house == null || out(n, 1, 24) || out(what, 0, 1) || house.living() == 0) return NONE;
        if (house.living() > 6) return HIDDEN;
        int most = NONE, it = NONE;
        for (int[] row : rows(house.sees.size(), house.living())) {
            House h = house.copy();
            int k = 0;
            for (Clock c : h.clocks) if (c.lives) c.room = row[k++];
            for (int i = 0; i < n; i++) hour(h);
            if (h.living() > most) {
                most = h.living();
                it = number(row);
            }
        }
        return what == 0 ? it : most;
    }

    int shows(int c) {
        return isClock(c) ? 60 * house.clocks.get(c).lived - house.clocks.get(c).lost : HIDDEN;
    }

    int near(int t) {
        if (house == null || t < 0) return NONE;
        int bits = 0;
        for (int c = 0; c < house.clocks.size(); c++) if (isLiving(c) && house.clocks.get(c).lost <= t) bits += 1 << c;
        return bits;
    }

    int middle() {
        if (house == null || house.living() == 0) return NONE;
        int[] lost = house.clocks.stream().filter(c -> c.lives).mapToInt(c -> c.lost).sorted().toArray();
        return lost.length % 2 == 1 ? lost[lost.length / 2] : lost[lost.length / 2 - 1];
    }

    int ring(int c) {
        if (!isClock(c)) return NONE;
        List<Integer> steps = new ArrayList<>();
        int at = house.clocks.get(c).faces;
        while (at != NONE && !steps.contains(at)) {
            steps.add(at);
            if (at == c) return steps.size();
            at = house.clocks.get(at).faces;
        }
        return NONE;
    }

    int still() {
        if (house == null) return NONE;
        int bits = 0;
        for (int c = 0; c < house.clocks.size(); c++) if (still(house, house.clocks.get(c))) bits += 1 << c;
        return bits;
    }

    int deaths(int c) {
        if (!isClock(c) || !still(house, house.clocks.get(c))) return NONE;
        Clock one = house.clocks.get(c), other = house.clocks.get(one.faces);
        for (int n = 1; n <= 99; n++) if (one.fat - n * one.hunger <= 0 || other.fat - n * other.hunger <= 0) return n;
        return NONE;
    }

    int hear(int hour, int strikes) {
        if (house == null || out(hour, 1, 6) || out(strikes, 0, 999) || heard.size() == 6) return NONE;
        heard.add(new int[] {hour, strikes});
        return heard.size();
    }

    int thief(int person, int n, int i) {
        if (!isPerson(person) || out(n, 1, 4)) return NONE;
        List<Integer> found = new ArrayList<>();
        for (int[] row : rows(house.sees.size(), n)) {
            House h = house.copy();
            Person p = h.persons.get(person);
            int sent = p.sent;
            boolean so = true;
            for (int j = 1; j <= 6; j++) {
                p.sent = j <= n ? row[j - 1] : sent;
                Report r = hour(h);
                for (int[] one : heard) so &= one[0] != j || one[1] == r.strikes;
            }
            if (so) found.add(number(row));
        }
        return ith(found, i);
    }

    int[] gains(int one, int other, int a, int b, int n, int price) {
        House h = house.copy();
        h.clocks.get(one).lure = a;
        h.clocks.get(other).lure = b;
        int[] gain = {-price * a, -price * b};
        for (int i = 0; i < n; i++) {
            hour(h);
            gain[0] += 10 * h.clocks.get(one).ate;
            gain[1] += 10 * h.clocks.get(other).ate;
        }
        return gain;
    }

    int lures(int one, int other, int n, int price, int i) {
        if (!isLiving(one) || !isLiving(other) || one == other || out(n, 1, 12) || out(price, 0, 99)) return NONE;
        List<Integer> found = new ArrayList<>();
        for (int a = 0; a < 4; a++)
            for (int b = 0; b < 4; b++) {
                int[] here = gains(one, other, a, b, n, price);
                boolean rest = true;
                for (int x = 0; x < 4; x++) {
                    rest &= gains(one, other, x, b, n, price)[0] <= here[0];
                    rest &= gains(one, other, a, x, n, price)[1] <= here[1];
                }
                if (rest) found.add(10 * a + b);
            }
        return ith(found, i);
    }

    int later(int person) {
        if (!isPerson(person)) return HIDDEN;
        House more = house.copy();
        more.persons.get(person).eyes++;
        int with = first(more, 60, false)[1], without = first(house, 60, false)[1];
        return (with == NONE ? 61 : with) - (without == NONE ? 61 : without);
    }

    int spared(int n, int what) {
        if (house == null || out(n, 1, 24) || out(what, 0, 1) || house.living() == 0) return NONE;
        int[] best = {NONE, NONE};
        for (int c = 0; c < house.clocks.size(); c++) {
            if (!isLiving(c)) continue;
            House h = house.copy();
            h.clocks.get(c).painted = true;
            for (int i = 0; i < n; i++) hour(h);
            if (h.living() > best[1]) best = new int[] {c, h.living()};
        }
        return best[what];
    }

    int seen(int person, int room) {
        if (!isPerson(person) || !isRoom(room)) return NONE;
        int bits = 0;
        for (Clock c : couldLook(house, room)) bits += 1 << house.clocks.indexOf(c);
        return bits;
    }

    int looks(int person) {
        if (!isPerson(person)) return NONE;
        House h = house.copy();
        step1(h);
        Clock c = chosen(h, person);
        return c == null ? NONE : h.clocks.indexOf(c);
    }

    int child(int clock, int what) {
        if (!isClock(clock) || out(what, 0, 1)) return HIDDEN;
        int line = 0;
        for (int at = house.clocks.get(clock).mother; at != NONE; at = house.clocks.get(at).mother) line++;
        return what == 0 ? house.clocks.get(clock).mother : line;
    }

    int image() {
        if (house == null) return NONE;
        image = house.copy();
        return house.hour;
    }

    int back() {
        if (image == null) return NONE;
        house = image.copy();
        acts.clear();
        return house.hour;
    }

    int count(int what) {
        switch (what) {
            case 0: return house == null ? 0 : house.sees.size();
            case 1: return house == null ? 0 : house.clocks.size();
            case 2: return house == null ? 0 : house.persons.size();
            case 3: return tastes.size();
            case 4: return tape.size();
            case 5: return holds;
            case 6: return house == null ? 0 : house.hour;
            case 7: return crowd;
            case 8: return house == null ? 0 : house.living();
            case 9: return heard.size();
            case 10: return acts.size();
            case 11: return Math.min(60, log.size());
            case 12: return house == null ? 0 : house.allEaten;
            case 13: return house == null ? 0 : house.allStrikes;
            default: return HIDDEN;
        }
    }
}
