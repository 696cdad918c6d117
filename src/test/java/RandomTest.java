import java.util.NoSuchElementException;
import java.util.Random;

/** Runs of calls by draws (always the same ones), each asked of the program and of the Model. */
public final class RandomTest {
    private static int wrong = 0;
    private static long calls = 0;

    public static void main(String[] args) {
        int runs = args.length > 0 ? Integer.parseInt(args[0]) : 700;
        long seed = args.length > 1 ? Long.parseLong(args[1]) : 1;
        for (int run = 0; run < runs && wrong < 10; run++) new Run(new Random(seed * 1000003 + run), run).all();
        for (int i = 0; i < runs * 4 && wrong < 10; i++) texts(new Random(-seed * 1000003 - i), i);
        System.out.println(calls + " calls asked of both, " + wrong + " answers differ");
        if (wrong > 0) System.exit(1);
    }

    private static void same(String call, long got, long want) {
        calls++;
        if (got != want) {
            wrong++;
            System.out.println(call + " answered " + got + ", due is " + want);
        }
    }

    // ---- texts

    static String house(Random r, int rooms, int clocks, int persons) {
        java.util.List<String> clauses = new java.util.ArrayList<>();
        for (int i = 0; i < rooms; i++) clauses.add("r" + (r.nextBoolean() ? "s" + (r.nextInt(4) == 0 ? 5 : r.nextInt(rooms)) : ""));
        for (int i = 0; i < clocks; i++) {
            java.util.List<String> items = new java.util.ArrayList<>();
            int z = r.nextInt(clocks + 1);
            if (r.nextInt(4) > 0) items.add("r" + r.nextInt(rooms));
            if (r.nextBoolean()) items.add("h" + r.nextInt(r.nextBoolean() ? 4 : 10));
            if (r.nextBoolean()) items.add("f" + (1 + r.nextInt(r.nextBoolean() ? 20 : 99)));
            if (r.nextBoolean()) items.add("m" + (1 + r.nextInt(r.nextBoolean() ? 30 : 99)));
            if (r.nextBoolean()) items.add("t" + (1 + r.nextInt(r.nextBoolean() ? 9 : 99)));
            if (r.nextBoolean()) items.add("k" + r.nextInt(4));
            if (r.nextInt(3) == 0) items.add("z" + (z == clocks || z == i ? 6 : z));
            java.util.Collections.shuffle(items, r);
            clauses.add("c" + String.join("", items));
        }
        for (int i = 0; i < persons; i++) {
            StringBuilder b = new StringBuilder("p");
            if (r.nextBoolean()) b.append("e").append(r.nextInt(10));
            if (r.nextInt(4) == 0) b.append("b").append(r.nextInt(2));
            if (r.nextBoolean()) {
                b.append(":");
                for (int k = 1 + r.nextInt(8); k > 0; k--) b.append(r.nextInt(rooms));
            }
            clauses.add(b.toString());
        }
        if (r.nextBoolean()) java.util.Collections.shuffle(clauses, r);
        return String.join(";", clauses);
    }

    static String taste(Random r) {
        StringBuilder b = new StringBuilder();
        for (int k = 1 + r.nextInt(3); k > 0; k--) {
            b.append(b.length() > 0 ? ";" : "").append("y:");
            if (r.nextInt(3) > 0) b.append(condition(r, 0)).append("?");
            b.append(sum(r, 0));
        }
        return b.toString();
    }

    static String condition(Random r, int depth) {
        StringBuilder b = new StringBuilder(unit(r, depth));
        for (int k = r.nextInt(3); k > 0; k--) b.append(r.nextBoolean() ? "&" : "|").append(unit(r, depth));
        return b.toString();
    }

    static String unit(Random r, int depth) {
        int sort = r.nextInt(5);
        if (depth < 6 && sort == 0) return "!" + unit(r, depth + 1);
        if (depth < 6 && sort == 1) return "(" + condition(r, depth + 1) + ")";
        return sum(r, depth) + "=<>".charAt(r.nextInt(3)) + sum(r, depth);
    }

    static String sum(Random r, int depth) {
        StringBuilder b = new StringBuilder();
        for (int k = r.nextInt(3); k >= 0; k--) {
            int sort = r.nextInt(6);
            if (sort == 0 && depth < 6) b.append("[").append(sum(r, depth + 1)).append("]");
            else if (sort == 1) b.append(r.nextInt(10000));
            else if (sort == 2) b.append(r.nextInt(12));
            else b.append("fhskdp".charAt(r.nextInt(6)));
            if (k > 0) b.append("+-*/".charAt(r.nextInt(4)));
        }
        return b.toString();
    }

    static String blanks(Random r, String t) {
        StringBuilder b = new StringBuilder();
        for (char c : t.toCharArray()) {
            while (r.nextInt(30) == 0) b.append(' ');
            b.append(c);
        }
        return b.toString();
    }

    static String spoilt(Random r, String t) {
        StringBuilder b = new StringBuilder(t);
        String signs = "rcpshfmtkzeby;:?!([])|&=<>+-*/0123456789 x" + (char) 200;
        for (int k = 1 + r.nextInt(2); k > 0; k--) {
            int at = r.nextInt(b.length() + 1);
            char c = signs.charAt(r.nextInt(signs.length()));
            switch (r.nextInt(4)) {
                case 0: b.insert(at, c); break;
                case 1: if (at < b.length()) b.setCharAt(at, c); break;
                case 2: if (at < b.length()) b.deleteCharAt(at); break;
                default: b.setLength(at); break;
            }
        }
        return b.toString();
    }

    static int[] words(String t) {
        int[] w = new int[5];
        for (int i = 0; i < t.length(); i++) w[i / 4] |= t.charAt(i) << 24 - 8 * (i % 4);
        return w;
    }

    static void texts(Random r, int run) {
        FedClocks x = new FedClocks();
        Model m = new Model();
        boolean isHouse = r.nextBoolean();
        String t = isHouse ? house(r, 1 + r.nextInt(5), 1 + r.nextInt(6), 1 + r.nextInt(6)) : taste(r);
        t = blanks(r, t);
        if (r.nextInt(4) > 0) t = spoilt(r, t);
        for (int i = 0; i < t.length(); i += 20) {
            int[] w = words(t.substring(i, Math.min(t.length(), i + 20)));
            same("text " + run + ": feed", x.feed(w[0], w[1], w[2], w[3], w[4]), m.feed(w));
        }
        for (int sort = 0; sort < 2; sort++)
            same("text " + run + ": fault(" + sort + ") of '" + m.tapeText() + "'", x.fault(sort), m.fault(sort));
        same("text " + run + ": text of '" + m.tapeText() + "'", x.text(isHouse ? 0 : 1), m.text(isHouse ? 0 : 1));
        same("text " + run + ": count(4)", x.count(4), m.count(4));
    }

    // ---- runs

    private static final class Run {
        final Random r;
        final int run;
        final FedClocks x = new FedClocks();
        final Model m = new Model();
        final boolean small;
        int asked = 0;

        Run(Random r, int run) {
            this.r = r;
            this.run = run;
            small = r.nextInt(4) > 0;
        }

        void due(String call, long got, long want) {
            asked++;
            same("run " + run + ": " + call, got, want);
        }

        void tell(String t, int sort) {
            due("end(0)", x.end(0) ? 1 : 0, m.end(0) ? 1 : 0);
            for (int i = 0; i < t.length(); i += 20) {
                int[] w = words(t.substring(i, Math.min(t.length(), i + 20)));
                due("feed", x.feed(w[0], w[1], w[2], w[3], w[4]), m.feed(w));
            }
            due("text " + t, x.text(sort), m.text(sort));
        }

        void all() {
            if (r.nextInt(10) > 0) newHouse();
            // an object answers 512 calls; no step asks more than 80
            while (asked < 430 && wrong < 10) one();
        }

        void newHouse() {
            tell(small ? house(r, 1 + r.nextInt(3), 1 + r.nextInt(3), 1 + r.nextInt(3))
                : house(r, 1 + r.nextInt(5), 1 + r.nextInt(6), 1 + r.nextInt(6)), 0);
        }

        int n(int least, int most) {
            int sort = r.nextInt(12);
            return sort == 0 ? least - 1 : sort == 1 ? most + 1 : sort == 2 ? r.nextInt() : least + r.nextInt(most - least + 1);
        }

        int c() {
            return r.nextInt(12) == 0 ? n(0, 9) : r.nextInt(Math.max(1, m.count(1)));
        }

        int p() {
            return r.nextInt(12) == 0 ? n(0, 5) : r.nextInt(Math.max(1, m.count(2)));
        }

        int room() {
            return r.nextInt(12) == 0 ? n(-1, 4) : r.nextInt(Math.max(1, m.count(0)));
        }

        /** What is so: some of all that may be asked. */
        void look() {
            switch (r.nextInt(6)) {
                case 0: counts(); break;
                case 1: clock(n(0, Math.max(0, m.count(1) - 1))); break;
                case 2: clocks(); break;
                case 3: person(n(0, Math.max(0, m.count(2) - 1))); break;
                case 4: putBy(); break;
                default: rest(); break;
            }
        }

        void counts() {
            for (int what = -1; what <= 14; what++) due("count(" + what + ")", x.count(what), m.count(what));
        }

        void clock(int c, int what) {
            Integer want = m.clock(c, what);
            Integer got;
            try {
                got = x.clock(c, what);
            } catch (NoSuchElementException e) {
                got = null;
            }
            due("clock(" + c + ", " + what + ")", got == null ? Long.MIN_VALUE : got, want == null ? Long.MIN_VALUE : want);
        }

        void clock(int c) {
            for (int what = -1; what <= 13; what++) clock(c, what);
            due("shows(" + c + ")", x.shows(c), m.shows(c));
            due("ring(" + c + ")", x.ring(c), m.ring(c));
            due("deaths(" + c + ")", x.deaths(c), m.deaths(c));
            for (int what = -1; what <= 2; what++) due("child(" + c + ", " + what + ")", x.child(c, what), m.child(c, what));
        }

        void clocks() {
            int[] whats = {r.nextInt(13), r.nextInt(13), r.nextInt(13), 2};
            for (int c = 0; c < m.count(1); c++) {
                for (int what : whats) clock(c, what);
                due("shows(" + c + ")", x.shows(c), m.shows(c));
                due("ring(" + c + ")", x.ring(c), m.ring(c));
                due("deaths(" + c + ")", x.deaths(c), m.deaths(c));
                due("child(" + c + ", 1)", x.child(c, 1), m.child(c, 1));
            }
        }

        void person(int p) {
            for (int what = -1; what <= 5; what++) due("person(" + p + ", " + what + ")", x.person(p, what), m.person(p, what));
            due("looks(" + p + ")", x.looks(p), m.looks(p));
            for (int room = -1; room <= m.count(0); room++) due("seen(" + p + ", " + room + ")", x.seen(p, room), m.seen(p, room));
        }

        void putBy() {
            int hours = m.count(11);
            due("count(11)", x.count(11), hours);
            for (int i : new int[] {-1, 0, 1, r.nextInt(hours + 1), r.nextInt(hours + 1), hours - 1, hours})
                for (int what = -1; what <= 4; what++) due("log(" + i + ", " + what + ")", x.log(i, what), m.log(i, what));
        }

        void rest() {
            due("middle()", x.middle(), m.middle());
            due("still()", x.still(), m.still());
            for (int p = 0; p < m.count(2); p++) due("looks(" + p + ")", x.looks(p), m.looks(p));
            for (int room = -1; room <= m.count(0); room++) due("sees(" + room + ")", x.sees(room), m.sees(room));
        }

        void one() {
            switch (r.nextInt(52)) {
                case 0: if (r.nextInt(4) == 0) newHouse(); break;
                case 1: case 2: tell(taste(r), 1); break;
                case 3: case 4: { int a = n(-1, Math.max(0, m.count(3) - 1)); due("taste(" + a + ")", x.taste(a) ? 1 : 0, m.taste(a) ? 1 : 0); break; }
                case 5: { int a = n(0, 99); due("crowd(" + a + ")", x.crowd(a) ? 1 : 0, m.crowd(a) ? 1 : 0); break; }
                case 6: case 7: case 8: { int a = r.nextInt(6) > 0 ? 1 + r.nextInt(4) : n(1, 60); due("go(" + a + ")", x.go(a), m.go(a)); break; }
                case 9: case 10: { int a = r.nextInt(6) > 0 ? 1 + r.nextInt(4) : n(1, 60); long s = r.nextLong(); due("crowds(" + a + ", " + s + ")", x.crowds(a, s), m.crowds(a, s)); break; }
                case 11: { int a = p(), b = room(); due("send(" + a + ", " + b + ")", x.send(a, b), m.send(a, b)); break; }
                case 12: { int a = p(); boolean b = r.nextBoolean(); due("blind(" + a + ", " + b + ")", x.blind(a, b), m.blind(a, b)); break; }
                case 13: { int a = c(), b = room(); due("hang(" + a + ", " + b + ")", x.hang(a, b), m.hang(a, b)); break; }
                case 14: case 15: case 16: { int a = c(), b = r.nextInt(5) == 0 ? -1 : c(); due("face(" + a + ", " + b + ")", x.face(a, b), m.face(a, b)); break; }
                case 17: case 18: { int a = c(), b = n(1, 20); due("wind(" + a + ", " + b + ")", x.wind(a, b), m.wind(a, b)); break; }
                case 19: { int a = c(); boolean b = r.nextBoolean(); due("paint(" + a + ", " + b + ")", x.paint(a, b), m.paint(a, b)); break; }
                case 20: case 21: for (int k = r.nextInt(8) == 0 ? 45 : 1; k > 0; k--) due("undo()", x.undo(), m.undo()); break;
                case 22: { int a = n(0, 9), b = n(0, 60); due("ahead(" + a + ", " + b + ")", x.ahead(a, b), m.ahead(a, b)); break; }
                case 23: { int a = n(1, 60), b = n(0, 1); due("starves(" + a + ", " + b + ")", x.starves(a, b), m.starves(a, b)); break; }
                case 24: { int a = n(1, 60), b = n(0, 1); due("wild(" + a + ", " + b + ")", x.wild(a, b), m.wild(a, b)); break; }
                case 25: due("full()", x.full(), m.full()); break;
                case 26: { int a = n(0, 3), b = n(0, 60); due("kinds(" + a + ", " + b + ")", x.kinds(a, b), m.kinds(a, b)); break; }
                case 27: case 28: { int a = r.nextBoolean() ? n(1, 12) : 1 + r.nextInt(3); if (!small && r.nextInt(10) > 0) break; int k = m.rota(a, -1); int b = r.nextBoolean() ? -1 : n(0, Math.max(0, k - 1)); due("rota(" + a + ", " + b + ")", x.rota(a, b), m.rota(a, b)); break; }
                case 29: case 30: { int a = r.nextBoolean() ? n(1, 12) : 1 + r.nextInt(3); if (!small && r.nextInt(10) > 0) break; due("fewest(" + a + ")", x.fewest(a), m.fewest(a)); break; }
                case 31: case 32: { int a = n(1, 24), b = n(0, 1); if (m.count(8) > 3 && m.count(8) <= 6 && r.nextInt(20) > 0) break; due("best(" + a + ", " + b + ")", x.best(a, b), m.best(a, b)); break; }
                case 33: { int a = r.nextInt(20) == 0 ? n(0, 9) : r.nextInt(200); due("near(" + a + ")", x.near(a), m.near(a)); break; }
                case 34: case 35: { int a = n(1, 6), b = r.nextInt(3) > 0 ? r.nextInt(3) : n(0, 999); if (r.nextInt(3) > 0) break; due("hear(" + a + ", " + b + ")", x.hear(a, b), m.hear(a, b)); break; }
                case 36: case 37: case 38: { int a = p(), b = n(1, 4), k = m.thief(a, b, -1), d = r.nextBoolean() ? -1 : n(0, Math.max(0, k - 1)); due("thief(" + a + ", " + b + ", " + d + ")", x.thief(a, b, d), m.thief(a, b, d)); break; }
                case 39: case 40: { int a = c(), b = c(), d = n(1, 12), e = n(0, 99), k = m.lures(a, b, d, e, -1), f = r.nextBoolean() ? -1 : n(0, Math.max(0, k - 1)); due("lures(" + a + ", " + b + ", " + d + ", " + e + ", " + f + ")", x.lures(a, b, d, e, f), m.lures(a, b, d, e, f)); break; }
                case 41: { int a = p(); due("later(" + a + ")", x.later(a), m.later(a)); break; }
                case 42: { int a = n(1, 24), b = n(0, 1); due("spared(" + a + ", " + b + ")", x.spared(a, b), m.spared(a, b)); break; }
                case 43: if (r.nextInt(3) == 0) due("image()", x.image(), m.image()); break;
                case 44: if (r.nextInt(3) == 0) due("back()", x.back(), m.back()); break;
                case 45: { int a = n(0, 30); due("end(" + a + ")", x.end(a) ? 1 : 0, m.end(a) ? 1 : 0); break; }
                default: look(); break;
            }
        }
    }
}
