import java.util.ArrayList;
import java.util.List;
import java.util.NoSuchElementException;

/**
 * What is refused answers as told and changes nothing: two objects get the same calls, one of them
 * refused ones in between. All that may be asked must be the same of both, then and ever after.
 */
public final class RefusedTest {
    private interface Call {
        int of(FedClocks x);
    }

    private interface Made {
        FedClocks one();
    }

    private record Refused(String name, int due, Call call) { }

    private record Given(String name, Made made, List<Refused> refused) { }

    private static final int NONE = -1;
    private static final int HIDDEN = -1000000;
    private static final int[] FAR = {Integer.MIN_VALUE, -1000000, -3, -2, 1000, 1000000, Integer.MAX_VALUE};
    private static final List<Given> GIVEN = new ArrayList<>();
    private static List<Refused> now;

    public static void main(String[] args) {
        GIVEN.add(new Given("without a HOUSE", RefusedTest::bare, withoutHouse()));
        GIVEN.add(new Given("three CLOCKS, one of them dead", RefusedTest::three, three0()));
        GIVEN.add(new Given("all is full", RefusedTest::full, full0()));
        GIVEN.add(new Given("none lives", RefusedTest::dead, dead0()));
        Say.inTerms(4, "What is refused answers as told and changes nothing.");
        for (Given given : GIVEN) {
            // one by one, and all of them in one object
            for (Refused r : given.refused) twins(given, List.of(r));
            for (int from = 0; from < given.refused.size(); from += 40)
                twins(given, given.refused.subList(from, Math.min(given.refused.size(), from + 40)));
        }
        Say.end();
    }

    /** One of two that are alike, with what was asked of it and refused. */
    private static FedClocks asked(Given given, List<Refused> refused) {
        FedClocks x = given.made.one();
        for (Refused r : refused) Say.due(given.name + ": " + r.name, r.call.of(x), r.due);
        return x;
    }

    /** Two new ones for each question, so that none is asked for more than an object is promised to answer. */
    private static void twins(Given given, List<Refused> refused) {
        String name = given.name + ": " + refused.get(0).name;
        FedClocks x = asked(given, refused);
        FedClocks y = given.made.one();
        Say.due(name + " changed nothing", Say.all(x).equals(Say.all(y)), true);
        x = asked(given, refused);
        y = given.made.one();
        Say.due(name + ": crowds", x.crowds(2, 9), y.crowds(2, 9));
        Say.due(name + ": undo of all", undone(x).equals(undone(y)), true);
        x = asked(given, refused);
        y = given.made.one();
        Say.due(name + ": back", x.back(), y.back());
        Say.due(name + " changed nothing of the IMAGE", Say.all(x).equals(Say.all(y)), true);
        Say.due(name + ": text(1)", x.text(1), y.text(1));
        Say.due(name + ": its TASTES", tastes(x).equals(tastes(y)), true);
    }

    private static String undone(FedClocks x) {
        StringBuilder b = new StringBuilder();
        for (int n = x.count(10); n > 0; n--) b.append(x.undo()).append(' ').append(x.count(11)).append(' ');
        return b.append(Say.told(x)).toString();
    }

    private static String tastes(FedClocks x) {
        StringBuilder b = new StringBuilder();
        for (int t = -1; t < x.count(3); t++) b.append(x.taste(t)).append(x.looks(0)).append(' ');
        return b.toString();
    }

    private static void no(String name, int due, Call call) {
        now.add(new Refused(name, due, call));
    }

    private static int truth(boolean is) {
        return is ? 1 : 0;
    }

    private static int clock(FedClocks x, int c, int what) {
        try {
            return x.clock(c, what);
        } catch (NoSuchElementException e) {
            return Say.THROWN;
        }
    }

    // ---- what is given

    private static FedClocks bare() {
        FedClocks x = new FedClocks();
        Say.put(x, "y:0-f");
        x.text(1);
        Say.put(x, "y:f;x");
        x.crowd(40);
        return x;
    }

    private static FedClocks three() {
        FedClocks x = Say.house("rs1;r;cf1h9;cf50m99t3z2;cr1f40m99h0;pe3:01;pb1;p", "y:f", "y:0-f");
        x.go(2);
        x.crowd(40);
        x.hear(1, 2);
        x.hear(3, 0);
        x.paint(2, true);
        x.send(2, 1);
        x.image();
        x.face(2, 1);
        x.go(3);
        x.blind(0, true);
        Say.put(x, "r;c;");
        return x;
    }

    private static FedClocks full() {
        FedClocks x = Say.house("r;r;r;r;r;ch0f99m50;ch0f99m50;ch0f99m50;ch0f99m50;cf1;ch0m99;pe1;p;p;p;p;p", "y:f", "y:k", "y:h", "y:1");
        x.taste(3);
        x.crowd(99);
        for (int i = 0; i < 6; i++) x.hear(i + 1, i);
        x.go(30);
        x.image();
        x.go(40);
        for (int p = 0; p < 6; p++) x.send(p, p % 5);
        Say.add(x, "y:f;".repeat(60));
        return x;
    }

    private static FedClocks dead() {
        FedClocks x = Say.house("r;r;cf1z1;cf2z0;pb1;pe0");
        x.go(1);
        x.image();
        x.send(0, 1);
        x.go(4);
        Say.put(x, "r;c;p ;");
        return x;
    }

    // ---- what is refused

    /** What no object takes, whatever it holds. */
    private static void always() {
        for (int n : FAR) {
            no("end(" + n + ")", 0, x -> truth(x.end(n)));
            no("fault(" + n + ")", -2, x -> x.fault(n));
            no("text(" + n + ")", NONE, x -> x.text(n));
            no("clock(" + n + ", 0)", Say.THROWN, x -> clock(x, n, 0));
            no("clock(0, " + n + ")", Say.THROWN, x -> clock(x, 0, n));
            no("person(" + n + ", 0)", NONE, x -> x.person(n, 0));
            no("person(0, " + n + ")", NONE, x -> x.person(0, n));
            no("sees(" + n + ")", NONE, x -> x.sees(n));
            no("taste(" + n + ")", 0, x -> truth(x.taste(n)));
            no("crowd(" + n + ")", 0, x -> truth(x.crowd(n)));
            no("go(" + n + ")", NONE, x -> x.go(n));
            no("crowds(" + n + ", 1)", NONE, x -> x.crowds(n, 1));
            no("send(" + n + ", 0)", NONE, x -> x.send(n, 0));
            no("send(0, " + n + ")", NONE, x -> x.send(0, n));
            no("blind(" + n + ", true)", NONE, x -> x.blind(n, true));
            no("hang(" + n + ", 1)", NONE, x -> x.hang(n, 1));
            no("hang(1, " + n + ")", NONE, x -> x.hang(1, n));
            no("face(" + n + ", 1)", NONE, x -> x.face(n, 1));
            no("face(1, " + n + ")", NONE, x -> x.face(1, n));
            no("wind(" + n + ", 1)", NONE, x -> x.wind(n, 1));
            no("wind(1, " + n + ")", NONE, x -> x.wind(1, n));
            no("paint(" + n + ", true)", NONE, x -> x.paint(n, true));
            no("log(" + n + ", 0)", NONE, x -> x.log(n, 0));
            no("log(0, " + n + ")", NONE, x -> x.log(0, n));
            no("ahead(" + n + ", 1)", NONE, x -> x.ahead(n, 1));
            no("ahead(0, " + n + ")", NONE, x -> x.ahead(0, n));
            no("starves(" + n + ", 0)", NONE, x -> x.starves(n, 0));
            no("starves(1, " + n + ")", NONE, x -> x.starves(1, n));
            no("wild(" + n + ", 0)", NONE, x -> x.wild(n, 0));
            no("wild(1, " + n + ")", NONE, x -> x.wild(1, n));
            no("kinds(" + n + ", 1)", NONE, x -> x.kinds(n, 1));
            no("kinds(0, " + n + ")", NONE, x -> x.kinds(0, n));
            no("rota(" + n + ", -1)", NONE, x -> x.rota(n, -1));
            no("fewest(" + n + ")", NONE, x -> x.fewest(n));
            no("best(" + n + ", 0)", NONE, x -> x.best(n, 0));
            no("best(1, " + n + ")", NONE, x -> x.best(1, n));
            no("shows(" + n + ")", HIDDEN, x -> x.shows(n));
            no("ring(" + n + ")", NONE, x -> x.ring(n));
            no("deaths(" + n + ")", NONE, x -> x.deaths(n));
            no("hear(" + n + ", 1)", NONE, x -> x.hear(n, 1));
            no("hear(1, " + n + ")", NONE, x -> x.hear(1, n < 0 ? n : n + 1));
            no("thief(" + n + ", 1, -1)", NONE, x -> x.thief(n, 1, -1));
            no("thief(0, " + n + ", -1)", NONE, x -> x.thief(0, n, -1));
            no("thief(0, 1, " + n + ")", NONE, x -> x.thief(0, 1, n));
            no("lures(" + n + ", 1, 1, 1, -1)", NONE, x -> x.lures(n, 1, 1, 1, -1));
            no("lures(1, " + n + ", 1, 1, -1)", NONE, x -> x.lures(1, n, 1, 1, -1));
            no("lures(1, 2, " + n + ", 1, -1)", NONE, x -> x.lures(1, 2, n, 1, -1));
            no("lures(1, 2, 1, " + n + ", -1)", NONE, x -> x.lures(1, 2, 1, n, -1));
            no("lures(1, 2, 1, 1, " + n + ")", NONE, x -> x.lures(1, 2, 1, 1, n));
            no("later(" + n + ")", HIDDEN, x -> x.later(n));
            no("spared(" + n + ", 0)", NONE, x -> x.spared(n, 0));
            no("spared(1, " + n + ")", NONE, x -> x.spared(1, n));
            no("seen(" + n + ", 0)", NONE, x -> x.seen(n, 0));
            no("seen(0, " + n + ")", NONE, x -> x.seen(0, n));
            no("looks(" + n + ")", NONE, x -> x.looks(n));
            no("child(" + n + ", 0)", HIDDEN, x -> x.child(n, 0));
            no("child(0, " + n + ")", HIDDEN, x -> x.child(0, n));
            no("count(" + n + ")", HIDDEN, x -> x.count(n));
        }
        no("near(-1)", NONE, x -> x.near(-1));
        no("near of the least", NONE, x -> x.near(Integer.MIN_VALUE));
        no("end(-1)", 0, x -> truth(x.end(-1)));
        no("end of one byte more", 0, x -> truth(x.end(x.count(4) + 1)));
        no("text(2)", NONE, x -> x.text(2));
        no("text(0)", NONE, x -> x.text(0));
        no("fault(2)", -2, x -> x.fault(2));
        no("a TASTE that is not told", 0, x -> truth(x.taste(x.count(3))));
        no("CROWD as it is", 0, x -> truth(x.crowd(x.count(7))));
        no("crowd(100)", 0, x -> truth(x.crowd(100)));
        no("crowd(-1)", 0, x -> truth(x.crowd(-1)));
        for (int n : new int[] {-1, 0, 61}) {
            no("go(" + n + ")", NONE, x -> x.go(n));
            no("crowds(" + n + ", 5)", NONE, x -> x.crowds(n, 5));
            no("starves(" + n + ", 1)", NONE, x -> x.starves(n, 1));
            no("wild(" + n + ", 1)", NONE, x -> x.wild(n, 1));
        }
        for (int n : new int[] {-1, 0, 13}) {
            no("rota(" + n + ", 0)", NONE, x -> x.rota(n, 0));
            no("fewest(" + n + ")", NONE, x -> x.fewest(n));
            no("lures(1, 2, " + n + ", 1, 0)", NONE, x -> x.lures(1, 2, n, 1, 0));
        }
        for (int n : new int[] {-1, 0, 25}) {
            no("best(" + n + ", 1)", NONE, x -> x.best(n, 1));
            no("spared(" + n + ", 1)", NONE, x -> x.spared(n, 1));
        }
        for (int n : new int[] {-1, 61}) {
            no("ahead(0, " + n + ")", NONE, x -> x.ahead(0, n));
            no("kinds(0, " + n + ")", NONE, x -> x.kinds(0, n));
        }
        for (int n : new int[] {-1, 10}) no("ahead(" + n + ", 0)", NONE, x -> x.ahead(n, 0));
        for (int n : new int[] {-1, 4}) {
            no("kinds(" + n + ", 0)", NONE, x -> x.kinds(n, 0));
            no("log(0, " + n + ")", NONE, x -> x.log(0, n));
        }
        for (int n : new int[] {-1, 2}) {
            no("starves(60, " + n + ")", NONE, x -> x.starves(60, n));
            no("wild(60, " + n + ")", NONE, x -> x.wild(60, n));
            no("best(24, " + n + ")", NONE, x -> x.best(24, n));
            no("spared(24, " + n + ")", NONE, x -> x.spared(24, n));
            no("child(0, " + n + ")", HIDDEN, x -> x.child(0, n));
        }
        for (int n : new int[] {-1, 0, 7}) no("hear(" + n + ", 0)", NONE, x -> x.hear(n, 0));
        for (int n : new int[] {-1, 1000}) no("hear(6, " + n + ")", NONE, x -> x.hear(6, n));
        for (int n : new int[] {-1, 0, 5}) no("thief(0, " + n + ", 0)", NONE, x -> x.thief(0, n, 0));
        for (int n : new int[] {-1, 100}) no("lures(1, 2, 1, " + n + ", 0)", NONE, x -> x.lures(1, 2, 1, n, 0));
        no("log(60, 0)", NONE, x -> x.log(60, 0));
        no("log(-1, 0)", NONE, x -> x.log(-1, 0));
        no("count(14)", HIDDEN, x -> x.count(14));
        no("count(-1)", HIDDEN, x -> x.count(-1));
    }

    private static List<Refused> withoutHouse() {
        now = new ArrayList<>();
        always();
        for (int i : new int[] {0, 1, 5}) {
            no("clock(" + i + ", 0)", Say.THROWN, x -> clock(x, i, 0));
            no("person(" + i + ", 0)", NONE, x -> x.person(i, 0));
            no("sees(" + i + ")", NONE, x -> x.sees(i));
            no("go(" + (i + 1) + ")", NONE, x -> x.go(i + 1));
            no("crowds(" + (i + 1) + ", 7)", NONE, x -> x.crowds(i + 1, 7));
            no("send(" + i + ", 0)", NONE, x -> x.send(i, 0));
            no("send(" + i + ", -1)", NONE, x -> x.send(i, -1));
            no("blind(" + i + ", true)", NONE, x -> x.blind(i, true));
            no("blind(" + i + ", false)", NONE, x -> x.blind(i, false));
            no("hang(" + i + ", 0)", NONE, x -> x.hang(i, 0));
            no("face(" + i + ", 2)", NONE, x -> x.face(i, 2));
            no("face(" + i + ", -1)", NONE, x -> x.face(i, -1));
            no("wind(" + i + ", 5)", NONE, x -> x.wind(i, 5));
            no("paint(" + i + ", true)", NONE, x -> x.paint(i, true));
            no("paint(" + i + ", false)", NONE, x -> x.paint(i, false));
            no("ahead(" + i + ", 5)", NONE, x -> x.ahead(i, 5));
            no("shows(" + i + ")", HIDDEN, x -> x.shows(i));
            no("ring(" + i + ")", NONE, x -> x.ring(i));
            no("deaths(" + i + ")", NONE, x -> x.deaths(i));
            no("hear(" + (i + 1) + ", 5)", NONE, x -> x.hear(i + 1, 5));
            no("thief(" + i + ", 1, -1)", NONE, x -> x.thief(i, 1, -1));
            no("lures(" + i + ", 2, 1, 1, -1)", NONE, x -> x.lures(i, 2, 1, 1, -1));
            no("later(" + i + ")", HIDDEN, x -> x.later(i));
            no("seen(" + i + ", 0)", NONE, x -> x.seen(i, 0));
            no("looks(" + i + ")", NONE, x -> x.looks(i));
            no("child(" + i + ", 0)", HIDDEN, x -> x.child(i, 0));
            no("near(" + i + ")", NONE, x -> x.near(i));
        }
        no("undo()", NONE, FedClocks::undo);
        no("log(0, 0)", NONE, x -> x.log(0, 0));
        no("starves(60, 0)", NONE, x -> x.starves(60, 0));
        no("wild(60, 0)", NONE, x -> x.wild(60, 0));
        no("full()", NONE, FedClocks::full);
        no("kinds(0, 0)", NONE, x -> x.kinds(0, 0));
        no("rota(1, -1)", NONE, x -> x.rota(1, -1));
        no("fewest(1)", NONE, x -> x.fewest(1));
        no("best(1, 0)", NONE, x -> x.best(1, 0));
        no("middle()", NONE, FedClocks::middle);
        no("still()", NONE, FedClocks::still);
        no("spared(1, 0)", NONE, x -> x.spared(1, 0));
        no("image()", NONE, FedClocks::image);
        no("back()", NONE, FedClocks::back);
        no("text(1) of a FAULT", NONE, x -> x.text(1));
        return now;
    }

    private static List<Refused> three0() {
        now = new ArrayList<>();
        always();
        no("text(0) of a FAULT", NONE, x -> x.text(0));
        no("text(1) of a FAULT", NONE, x -> x.text(1));
        no("clock(3, 0)", Say.THROWN, x -> clock(x, 3, 0));
        no("clock(0, 13)", Say.THROWN, x -> clock(x, 0, 13));
        no("clock(-1, 2)", Say.THROWN, x -> clock(x, -1, 2));
        no("clock(0, -1)", Say.THROWN, x -> clock(x, 0, -1));
        no("person(3, 0)", NONE, x -> x.person(3, 0));
        no("person(0, 5)", NONE, x -> x.person(0, 5));
        no("sees(2)", NONE, x -> x.sees(2));
        no("send(0, -1): it is so", NONE, x -> x.send(0, -1));
        no("send(2, 1): it is so", NONE, x -> x.send(2, 1));
        no("send(3, 0)", NONE, x -> x.send(3, 0));
        no("send(0, 2)", NONE, x -> x.send(0, 2));
        no("blind(0, true): it is so", NONE, x -> x.blind(0, true));
        no("blind(2, false): it is so", NONE, x -> x.blind(2, false));
        no("blind(3, true)", NONE, x -> x.blind(3, true));
        no("hang(0, 1) of a dead one", NONE, x -> x.hang(0, 1));
        no("hang(1, 0): it hangs there", NONE, x -> x.hang(1, 0));
        no("hang(1, 2)", NONE, x -> x.hang(1, 2));
        no("hang(1, -1)", NONE, x -> x.hang(1, -1));
        no("hang(3, 0)", NONE, x -> x.hang(3, 0));
        no("face(0, 1) of a dead one", NONE, x -> x.face(0, 1));
        no("face(0, -1) of a dead one", NONE, x -> x.face(0, -1));
        no("face(1, 1): itself", NONE, x -> x.face(1, 1));
        no("face(1, 2): it is so", NONE, x -> x.face(1, 2));
        no("face(1, 3)", NONE, x -> x.face(1, 3));
        no("face(3, 1)", NONE, x -> x.face(3, 1));
        no("wind(0, 1) of a dead one", NONE, x -> x.wind(0, 1));
        no("wind(1, 0)", NONE, x -> x.wind(1, 0));
        no("wind(1, 21)", NONE, x -> x.wind(1, 21));
        no("wind(1, -1)", NONE, x -> x.wind(1, -1));
        no("wind(3, 1)", NONE, x -> x.wind(3, 1));
        no("paint(0, true) of a dead one", NONE, x -> x.paint(0, true));
        no("paint(1, false): it is so", NONE, x -> x.paint(1, false));
        no("paint(2, true): it is so", NONE, x -> x.paint(2, true));
        no("paint(3, true)", NONE, x -> x.paint(3, true));
        no("log(5, 0)", NONE, x -> x.log(5, 0));
        no("starves(1, 0): none", NONE, x -> x.starves(1, 0));
        no("wild(60, 0): none", NONE, x -> x.wild(60, 0));
        no("full(): never", NONE, FedClocks::full);
        no("rota(12, 8): no such one", NONE, x -> x.rota(12, 8));
        no("shows(3)", HIDDEN, x -> x.shows(3));
        no("ring(0): never", NONE, x -> x.ring(0));
        no("ring(3)", NONE, x -> x.ring(3));
        no("deaths(0)", NONE, x -> x.deaths(0));
        no("deaths(3)", NONE, x -> x.deaths(3));
        no("thief(3, 1, -1)", NONE, x -> x.thief(3, 1, -1));
        no("thief(0, 1, 2)", NONE, x -> x.thief(0, 1, 2));
        no("lures(0, 1, ..) of a dead one", NONE, x -> x.lures(0, 1, 1, 1, -1));
        no("lures(1, 0, ..) of a dead one", NONE, x -> x.lures(1, 0, 1, 1, -1));
        no("lures(1, 1, ..): alike", NONE, x -> x.lures(1, 1, 1, 1, -1));
        no("lures(1, 3, ..)", NONE, x -> x.lures(1, 3, 1, 1, -1));
        no("later(3)", HIDDEN, x -> x.later(3));
        no("seen(3, 0)", NONE, x -> x.seen(3, 0));
        no("seen(0, 2)", NONE, x -> x.seen(0, 2));
        no("looks(1): it is BLIND", NONE, x -> x.looks(1));
        no("looks(3)", NONE, x -> x.looks(3));
        no("child(3, 0)", HIDDEN, x -> x.child(3, 0));
        return now;
    }

    private static List<Refused> full0() {
        now = new ArrayList<>();
        always();
        no("feed of one byte more", NONE, x -> x.feed(0, 0, 0, 0, 'y'));
        no("feed of twenty bytes more", NONE, x -> x.feed(-1, -1, -1, -1, -1));
        no("text(1): there are four", NONE, x -> x.text(1));
        no("hear(1, 1): there are six", NONE, x -> x.hear(1, 1));
        no("clock(10, 0)", Say.THROWN, x -> clock(x, 10, 0));
        no("best(1, 0): more than six live", HIDDEN, x -> x.best(1, 0));
        no("best(24, 1): more than six live", HIDDEN, x -> x.best(24, 1));
        no("send(5, 0): it is so", NONE, x -> x.send(5, 0));
        no("send(6, 0)", NONE, x -> x.send(6, 0));
        no("hang(9, 0): it hangs there", NONE, x -> x.hang(9, 0));
        no("hang(9, 5)", NONE, x -> x.hang(9, 5));
        no("hang(10, 1)", NONE, x -> x.hang(10, 1));
        no("face(9, 9): itself", NONE, x -> x.face(9, 9));
        no("face(9, 10)", NONE, x -> x.face(9, 10));
        no("face(9, -1): it is so", NONE, x -> x.face(9, -1));
        no("rota(1, 15625)", NONE, x -> x.rota(1, 15625));
        no("lures(9, 10, ..)", NONE, x -> x.lures(9, 10, 1, 1, -1));
        no("looks(6)", NONE, x -> x.looks(6));
        return now;
    }

    private static List<Refused> dead0() {
        now = new ArrayList<>();
        always();
        for (int c = 0; c < 2; c++) {
            int i = c;
            no("hang of a dead one", NONE, x -> x.hang(i, 1));
            no("face of a dead one", NONE, x -> x.face(i, -1));
            no("wind of a dead one", NONE, x -> x.wind(i, 20));
            no("paint of a dead one", NONE, x -> x.paint(i, true));
            no("deaths of a dead one", NONE, x -> x.deaths(i));
            no("lures of dead ones", NONE, x -> x.lures(i, 1 - i, 1, 1, -1));
        }
        no("best(1, 0): none lives", NONE, x -> x.best(1, 0));
        no("best(24, 1): none lives", NONE, x -> x.best(24, 1));
        no("spared(1, 0): none lives", NONE, x -> x.spared(1, 0));
        no("middle(): none lives", NONE, FedClocks::middle);
        no("starves(60, 0): none", NONE, x -> x.starves(60, 0));
        no("looks(1): at nothing", NONE, x -> x.looks(1));
        no("text(1) of a FAULT", NONE, x -> x.text(1));
        return now;
    }
}
