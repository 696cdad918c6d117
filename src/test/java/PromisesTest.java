import java.util.NoSuchElementException;

/** Each promise of the document, by answers that were worked out by hand from its words. */
public final class PromisesTest {
    private static int wrong = 0;
    private static int asked = 0;
    private static int promise = 0;

    private static void due(String call, long got, long want) {
        asked++;
        if (got != want) {
            wrong++;
            System.out.println("promise " + promise + ": " + call + " answered " + got + ", due is " + want);
        }
    }

    private static void due(String call, boolean got, boolean want) {
        due(call, got ? 1 : 0, want ? 1 : 0);
    }

    private static void put(FedClocks x, String t) {
        x.end(0);
        for (int i = 0; i < t.length(); i += 20) {
            int[] w = new int[5];
            for (int k = i; k < Math.min(t.length(), i + 20); k++) w[(k - i) / 4] |= t.charAt(k) << 24 - 8 * (k % 4);
            x.feed(w[0], w[1], w[2], w[3], w[4]);
        }
    }

    private static FedClocks house(String t) {
        FedClocks x = new FedClocks();
        tell(x, t);
        return x;
    }

    private static void tell(FedClocks x, String t) {
        put(x, t);
        if (x.text(0) == -1) throw new AssertionError("no HOUSE: " + t);
    }

    private static void like(FedClocks x, String t) {
        put(x, t);
        int taste = x.text(1);
        if (taste == -1 || !x.taste(taste)) throw new AssertionError("no TASTE: " + t);
    }

    private static void faultOf(String t, int sort, int want) {
        FedClocks x = new FedClocks();
        put(x, t);
        due("fault(" + sort + ") of '" + t + "'", x.fault(sort), want);
        due("bytes behind it", x.count(4), t.length());
    }

    private static final int THROWN = Integer.MIN_VALUE;

    private static int clock(FedClocks x, int clock, int what) {
        try {
            return x.clock(clock, what);
        } catch (NoSuchElementException e) {
            return THROWN;
        }
    }

    public static void main(String[] args) {
        newObject(); feed(); end(); houseFaults(); tasteFaults(); text(); clocks(); persons(); sees(); tastes(); worths();
        crowd(); hours(); wildOnes(); crowds(); send(); blind(); hang(); face(); wind(); paint(); undo(); log();
        ahead(); starves(); wild(); full(); kinds(); rota(); fewest(); best(); shows(); near(); middle(); ring(); still();
        deaths(); hear(); thief(); lures(); later(); spared(); seen(); looks(); child(); image(); back(); count();
        System.out.println(asked + " answers asked for, " + wrong + " not as due");
        if (wrong > 0) System.exit(1);
    }

    private static void newObject() {
        promise = 1;
        FedClocks x = new FedClocks();
        int[] want = {0, 0, 0, 0, 0, -1, 0, 0, 0, 0, 0, 0, 0, 0};
        for (int what = 0; what < want.length; what++) due("count(" + what + ")", x.count(what), want[what]);
        due("go(1)", x.go(1), -1);
        due("image()", x.image(), -1);
        due("back()", x.back(), -1);
        due("undo()", x.undo(), -1);
        due("clock(0, 0)", clock(x, 0, 0), THROWN);
        due("NONE", FedClocks.NONE, -1);
        due("HIDDEN", FedClocks.HIDDEN, -1000000);
    }

    private static void feed() {
        promise = 2;
        FedClocks x = new FedClocks();
        due("feed of zeros", x.feed(0, 0, 0, 0, 0), 0);
        due("feed of bytes of 0 between", x.feed(0x72000000, 0x003b0000, 0x00006300, 0x0000003b, 0x00700000), 5);
        due("fault(0): r;c;p", x.fault(0), -1);
        due("feed of negative ones", x.feed(-1, -1, -1, -1, 0xff), 22);
        due("fault(0): 255 at 5", x.fault(0), 5);
        x.end(0);
        for (int i = 1; i <= 12; i++) due("feed " + i, x.feed(0x20202020, 0x20202020, 0x20202020, 0x20202020, 0x20202020), 20 * i);
        due("feed beyond 240", x.feed(0x72000000, 0, 0, 0, 0), -1);
        due("feed of nothing at 240", x.feed(0, 0, 0, 0, 0), 240);
        x.end(239);
        due("feed of two at 239", x.feed(0x72720000, 0, 0, 0, 0), -1);
        due("bytes still", x.count(4), 239);
        due("feed of one at 239", x.feed(0, 0x72, 0, 0, 0), 240);
        for (int one = 0; one < 5; one++)
            for (int other = 0; other < 5; other++) {
                int[] w = new int[5];
                w[one] |= 0x72000000;
                w[other] |= 0x70;
                x.end(239);
                due("two beyond it", x.feed(w[0], w[1], w[2], w[3], w[4]), -1);
                x.end(238);
                due("two up to it", x.feed(w[0], w[1], w[2], w[3], w[4]), 240);
            }
    }

    private static void end() {
        promise = 3;
        FedClocks x = new FedClocks();
        due("end(1) of none", x.end(1), false);
        due("end(0) of none", x.end(0), true);
        put(x, "r;c;p;x");
        due("end(8)", x.end(8), false);
        due("end(-1)", x.end(-1), false);
        due("end(7)", x.end(7), true);
        due("fault", x.fault(0), 6);
        due("end(5)", x.end(5), true);
        due("fault", x.fault(0), -1);
        due("end(6)", x.end(6), false);
    }

    private static void houseFaults() {
        promise = 4;
        faultOf("", 0, 0);
        faultOf("   ", 0, 3);
        faultOf("r;c;p", 0, -1);
        faultOf("  p ; c ;r  ", 0, -1);
        faultOf("r;c;p;", 0, 6);
        faultOf("r;c;p; ", 0, 7);
        faultOf(";r;c;p", 0, 0);
        faultOf("r;;c;p", 0, 2);
        faultOf("r;c", 0, 3);
        faultOf("c;p", 0, 3);
        faultOf("r;p", 0, 3);
        // items of another clause, twice, without a number
        faultOf("rh1;c;p", 0, 1);
        faultOf("r;cs0;p", 0, 3);
        faultOf("r;c;pf1", 0, 5);
        faultOf("rs0s0;c;p", 0, 3);
        faultOf("r;cf1h2f1;p", 0, 7);
        faultOf("r;c;pb1 e3 b0", 0, 11);
        faultOf("r;cf;p", 0, 4);
        faultOf("r;c;pe", 0, 6);
        faultOf("r;c;pe ", 0, 7);
        faultOf("r;cfh1;p", 0, 4);
        faultOf("r;c1;p", 0, 3);
        // every bound, inside and outside
        String[][] bounds = {{"h", "0", "9", "10"}, {"f", "1", "99", "0"}, {"m", "1", "99", "00"}, {"t", "1", "99", "0"}, {"k", "0", "3", "4"}, {"z", "6", "06", "7"}, {"r", "0", "00", "5"}};
        for (String[] b : bounds) {
            faultOf("r;c" + b[0] + b[1] + ";p", 0, -1);
            faultOf("r;p;c" + b[0] + b[2], 0, -1);
            faultOf("r;p;c" + b[0] + b[3] + ";p", 0, 5 + b[3].length());
            faultOf("r;p;c" + b[0] + b[3], 0, 5 + b[3].length());
            faultOf("r;p;c" + b[0] + b[3] + "  h1", 0, 5 + b[3].length());
            faultOf("r;p;c" + b[0] + "001", 0, 8);
            faultOf("r;p;c" + b[0] + "999", 0, 8);
            faultOf("r;p;c" + b[0] + "1 1", 0, b[0].equals("z") ? 8 : b[0].equals("r") ? 8 : 8);
        }
        faultOf("r;c;pe9b1", 0, -1);
        faultOf("r;c;pe09", 0, -1);
        faultOf("r;c;pe10", 0, 7);
        faultOf("r;c;pb2", 0, 6);
        faultOf("rs5;c;p", 0, -1);
        faultOf("rs6;c;p", 0, 2);
        faultOf("rs55;c;p", 0, 3);
        faultOf("r s 0 5 ;c;p", 0, 6);
        faultOf("r s 05 ;c;p", 0, -1);
        // ways
        faultOf("r;c;p:", 0, 6);
        faultOf("r;c;p: ", 0, 7);
        faultOf("r;c;p:;", 0, 6);
        faultOf("r;c;p::", 0, 6);
        faultOf("r;c;p:0e1", 0, 7);
        faultOf("r;c;p:0:0", 0, 7);
        faultOf("r;c:0;p", 0, 3);
        faultOf("r:0;c;p", 0, 1);
        faultOf("r;r;r;r;r;c;pe1:01234321", 0, -1);
        faultOf("r;r;r;r;r;c;p:0123432 1 0", 0, 24);
        faultOf("r;c;p:05", 0, 7);
        faultOf("r;c;p:00000000 5", 0, 15);
        faultOf("r;c;p:0 0 ;p:00000000", 0, -1);
        // too many clauses
        faultOf("r;r;r;r;r;r;c;p", 0, 10);
        faultOf("r;c;c;c;c;c;c;p", 0, -1);
        faultOf("r;c;c;c;c;c;c;cx", 0, 14);
        faultOf("r;p;p;p;p;p;p;c", 0, -1);
        faultOf("c;r;p;p;p;p;p;p;p", 0, 16);
        // what is not told, is told at the end alone
        faultOf("rs1;c;p", 0, 7);
        faultOf("rs1;c;p;r", 0, -1);
        faultOf("r;cr1;p", 0, 7);
        faultOf("cr1;r;p;r", 0, -1);
        faultOf("r;cz1;p", 0, 7);
        faultOf("r;cz1;p;c", 0, -1);
        faultOf("r;cz0;p", 0, 7);
        faultOf("r;c;cz1;p", 0, 9);
        faultOf("r;c;cz0;p", 0, -1);
        faultOf("r;c;p:01", 0, 8);
        faultOf("r;c;p:01;x", 0, 9);
        faultOf("rs0;c;p", 0, -1);
        due("fault(2)", new FedClocks().fault(2), -2);
        due("fault(-1)", new FedClocks().fault(-1), -2);
    }

    private static void tasteFaults() {
        promise = 4;
        faultOf("", 1, 0);
        faultOf("y", 1, 1);
        faultOf("y:", 1, 2);
        faultOf("x:f", 1, 0);
        faultOf("yf", 1, 1);
        faultOf(" y : f ", 1, -1);
        for (char c : "fhskdp".toCharArray()) faultOf("y:" + c, 1, -1);
        faultOf("y:z", 1, 2);
        faultOf("y:ff", 1, 3);
        faultOf("y:5f", 1, 3);
        faultOf("y:f5", 1, 3);
        faultOf("y:9999", 1, -1);
        faultOf("y:0000", 1, -1);
        faultOf("y:00001", 1, 6);
        faultOf("y:1 2", 1, 4);
        faultOf("y:-1", 1, 2);
        faultOf("y:f+", 1, 4);
        faultOf("y:f+-1", 1, 4);
        faultOf("y:f*h/2-[k+d]*3", 1, -1);
        faultOf("y:[f", 1, 4);
        faultOf("y:[f)", 1, 4);
        faultOf("y:[f=1]", 1, 4);
        faultOf("y:[]", 1, 3);
        faultOf("y:f;", 1, 4);
        faultOf("y:f;y:h;z", 1, 8);
        faultOf("y:f;y:f>1?h;y:0", 1, -1);
        faultOf("y:f?1", 1, 3);
        faultOf("y:f&h", 1, 3);
        faultOf("y:f>1;", 1, 5);
        faultOf("y:f>1>2", 1, 5);
        faultOf("y:f>1?", 1, 6);
        faultOf("y:f>1?2?3", 1, 7);
        faultOf("y:f>1?2>1", 1, 7);
        faultOf("y:f>1?!", 1, 6);
        faultOf("y:f>1&h", 1, 7);
        faultOf("y:f>1&h=2|k<3?1", 1, -1);
        faultOf("y:f>1&&h=2?1", 1, 6);
        faultOf("y:!f=1?1", 1, -1);
        faultOf("y:!f", 1, 4);
        faultOf("y:!f;", 1, 4);
        faultOf("y:!;", 1, 3);
        faultOf("y:(f=1)?1", 1, -1);
        faultOf("y:(f=1)&!(h=2|s>3)?1", 1, -1);
        faultOf("y:(f)?1", 1, 4);
        faultOf("y:(f=1)+1", 1, 7);
        faultOf("y:(f=1)=1", 1, 7);
        faultOf("y:(f=1];", 1, 6);
        faultOf("y:(f=1);", 1, 7);
        faultOf("y:f=(1)", 1, 4);
        faultOf("y:f=[1]?(", 1, 8);
        faultOf("y:f=1|!(k=[d-1])?[f]", 1, -1);
        // six within one another, of each sort and mixed
        faultOf("y:[[[[[[f]]]]]]", 1, -1);
        faultOf("y:[[[[[[[f]]]]]]]", 1, 8);
        faultOf("y:!!!!!!f=1?1", 1, -1);
        faultOf("y:!!!!!!!", 1, 8);
        faultOf("y:((((((f=1))))))?1", 1, -1);
        faultOf("y:(((((((", 1, 8);
        faultOf("y:!(!(!(f=1)))?1", 1, -1);
        faultOf("y:!(!(!(f=[1", 1, 10);
        faultOf("y:!(!(!(f=1)&!f=2)))?1", 1, 19);
        faultOf("y:!(!(!(f=1)&!(f=[1]", 1, 17);
        faultOf("y:!(!(!(f=1)&(f=[1]", 1, 19);
        faultOf("y:!(!(!f=1)&!(f=[h]))?1", 1, -1);
        faultOf("y:!f=1&!f=1&!f=1&!f=1&!f=1&!f=1&!f=[1]?1", 1, -1);
        faultOf("y:!!!!!!f=1?[[[[[[1]]]]]]", 1, -1);
        faultOf("y:!!!!!!f=1?[[[[[[[", 1, 18);
    }

    private static void text() {
        promise = 5;
        FedClocks x = new FedClocks();
        due("text(0) of nothing", x.text(0), -1);
        put(x, "r;c");
        due("text(0) of a FAULT", x.text(0), -1);
        due("text(2)", x.text(2), -1);
        due("text(-1)", x.text(-1), -1);
        due("the tape stays", x.count(4), 3);
        put(x, "r;c;c;c;p");
        due("text(1) of a HOUSE", x.text(1), -1);
        due("text(0)", x.text(0), 3);
        due("the tape is empty", x.count(4), 0);
        for (int i = 0; i < 4; i++) {
            put(x, "y:" + i);
            due("text(1)", x.text(1), i);
            due("the tape is empty", x.count(4), 0);
        }
        put(x, "y:4");
        due("a fifth TASTE", x.text(1), -1);
        due("the tape stays", x.count(4), 3);
        due("fault of it", x.fault(1), -1);
        // another HOUSE: what is gone and what is not
        x.taste(2);
        x.crowd(7);
        x.hear(1, 1);
        x.send(0, 0);
        x.go(5);
        x.image();
        put(x, "r;r;cf50;pe9;p");
        due("text(0)", x.text(0), 1);
        int[] want = {2, 1, 2, 4, 0, 2, 0, 7, 1, 0, 0, 0, 0, 0};
        for (int what = 0; what < want.length; what++) due("count(" + what + ")", x.count(what), want[what]);
        due("back()", x.back(), -1);
        due("undo()", x.undo(), -1);
        due("log(0, 0)", x.log(0, 0), -1);
        due("person(0, 3)", x.person(0, 3), 0);
        // a FAULT leaves the old one
        put(x, "r;r;r;c;");
        due("text(0) of a FAULT", x.text(0), -1);
        due("ROOMS still", x.count(0), 2);
    }

    private static void clocks() {
        promise = 6;
        FedClocks x = house("r;r;cr1h2f33m44t55k3z1;c;p");
        int[] told = {1, 2, 33, 44, 55, 3, 1, 1, 0, 0, 0, 0, 0};
        int[] plain = {0, 1, 10, 40, 8, 0, -1, 1, 0, 0, 0, 0, 0};
        for (int what = 0; what <= 12; what++) {
            due("clock(0, " + what + ")", clock(x, 0, what), told[what]);
            due("clock(1, " + what + ")", clock(x, 1, what), plain[what]);
        }
        int[][] none = {{2, 0}, {-1, 0}, {0, 13}, {0, -1}, {10, 0}, {Integer.MAX_VALUE, 0}, {0, Integer.MIN_VALUE}};
        for (int[] n : none) due("clock(" + n[0] + ", " + n[1] + ")", clock(x, n[0], n[1]), THROWN);
        // one that starved is there still
        x = house("r;cf3h2t9;c;pb1");
        x.go(3);
        due("FAT", clock(x, 0, 2), 0);
        due("lives", clock(x, 0, 7), 0);
        due("the other's FAT", clock(x, 1, 2), 7);
        due("HOURS since", clock(x, 1, 12), 3);
    }

    private static void persons() {
        promise = 7;
        FedClocks x = house("r;r;c;pe7b1:010;p");
        int[] told = {7, 1, 0, 0, 3};
        int[] plain = {2, 0, 0, 0, 0};
        for (int what = 0; what <= 4; what++) {
            due("person(0, " + what + ")", x.person(0, what), told[what]);
            due("person(1, " + what + ")", x.person(1, what), plain[what]);
        }
        int[][] none = {{2, 0}, {-1, 0}, {0, 5}, {0, -1}};
        for (int[] n : none) due("person(" + n[0] + ", " + n[1] + ")", x.person(n[0], n[1]), -1);
        // by its way, HOUR modulo its length; BLIND or not
        int[] places = {0, 1, 0, 0, 1};
        for (int place : places) {
            x.go(1);
            due("where it is", x.person(0, 2), place);
        }
        // SENT is ahead of its WAY; not SENT any more without one it stays
        x.send(0, 1);
        x.send(1, 1);
        due("where it is, still", x.person(1, 2), 0);
        x.go(1);
        due("where it is", x.person(0, 2), 1);
        x.send(0, -1);
        x.send(1, -1);
        x.go(1);
        due("where it is, HOUR 6 of 3", x.person(0, 2), 0);
        due("where it stays", x.person(1, 2), 1);
    }

    private static void sees() {
        promise = 8;
        FedClocks x = house("rs2;rs5;r;rs3;c;p");
        int[] want = {2, -1, -1, 3};
        for (int r = 0; r < 4; r++) due("sees(" + r + ")", x.sees(r), want[r]);
        due("sees(4)", x.sees(4), -1);
        due("sees(-1)", x.sees(-1), -1);
        due("sees(0) without", new FedClocks().sees(0), -1);
    }

    private static void tastes() {
        promise = 9;
        FedClocks x = new FedClocks();
        due("taste(-1)", x.taste(-1), true);
        due("taste(0)", x.taste(0), false);
        put(x, "y:f");
        x.text(1);
        due("taste(0)", x.taste(0), true);
        due("taste(0) again", x.taste(0), true);
        due("taste(1)", x.taste(1), false);
        due("taste(-2)", x.taste(-2), false);
        due("which holds", x.count(5), 0);
        // none: 100 less FAT; y:f the other way round
        tell(x, "r;cf5;cf9;p");
        due("looks by y:f", x.looks(0), 1);
        x.taste(-1);
        due("looks by none", x.looks(0), 0);
        due("which holds", x.count(5), -1);
    }

    /** Which of two (FAT 9 and 5, HUNGER 1 and 2, KIND 0 and 1, the second in the other ROOM) is looked at. */
    private static void looked(String taste, int want) {
        FedClocks x = house("rs1;r;cf9h1;cf5h2k1r1;p;p");
        like(x, taste);
        due("looks by " + taste, x.looks(1), want);
    }

    private static void worths() {
        promise = 41;
        looked("y:f", 0);
        looked("y:h", 1);
        looked("y:k", 1);
        looked("y:d", 1);
        looked("y:1-d", 0);
        looked("y:p*d", 1);
        looked("y:s", 0);
        looked("y:7", 0);
        looked("y:f-h*3", 0);
        looked("y:[f-h]*0+d", 1);
        looked("y:10-2-f", 1);
        looked("y:f/2*2-f", 0);
        // 9 / 4 * 4 is 8, 5 / 4 * 4 is 4
        looked("y:f/4*4", 0);
        looked("y:0-f/4*4", 1);
        // / cuts towards 0: -9 / 10 and -5 / 10 are 0 both
        looked("y:[0-f]/10", 0);
        looked("y:[0-f]/10+d", 1);
        // -5 / 2 is -2, not -3
        looked("y:[0-f]/2+3*d+2*[1-d]", 1);
        looked("y:f/0+d", 1);
        looked("y:f/[d-d]", 0);
        // behind each sign: 9999 * 9999 is 1,000,000, and that less 9999 is 990,001
        looked("y:9999*9999-9999+9999-1000*1000+d", 1);
        looked("y:9999*9999=1000*1000?d;y:1-d", 1);
        looked("y:0-9999*9999<0-1000*1000?1-d;y:d", 1);
        looked("y:0-9999*9999-1=0-1000*1000?d;y:1-d", 1);
        // conditions
        looked("y:f>5?1;y:2", 1);
        looked("y:f<9?1", 1);
        looked("y:f=9?1", 0);
        looked("y:f>9?5;y:f>100?9", 0);
        looked("y:f=9&h=1?0;y:1", 1);
        looked("y:f=9&h=2?9;y:d", 1);
        looked("y:f=9|h=2?9;y:d", 0);
        looked("y:h=1|h=2&f=100?0;y:1", 1);
        looked("y:(h=1|h=2)&f=9?0;y:1", 1);
        looked("y:!h=1?1", 1);
        looked("y:!h=1&f=9?1;y:d+1", 1);
        looked("y:!(h=1&f=9)?1", 1);
        looked("y:!!h=1?1", 0);
        looked("y:[f+h]*2>[20-1]?0;y:1", 1);
        looked("y:f<0?1", 0);
        // s: HOURS since it struck, or since it was there
        FedClocks x = house("r;ct2m99;ct50f20m99;pe2");
        like(x, "y:s");
        due("nobody struck: the lowest", x.looks(0), 0);
        x.go(1);
        due("the first struck", clock(x, 0, 9), 1);
        due("the other waits longer", x.looks(0), 1);
        x.go(1);
        due("HOURS since of 0", clock(x, 0, 12), 1);
        due("HOURS since of 1", clock(x, 1, 12), 2);
    }

    private static void crowd() {
        promise = 10;
        FedClocks x = new FedClocks();
        due("crowd(0): it is so", x.crowd(0), false);
        due("crowd(-1)", x.crowd(-1), false);
        due("crowd(100)", x.crowd(100), false);
        due("crowd(99)", x.crowd(99), true);
        due("crowd(99) again", x.crowd(99), false);
        due("count(7)", x.count(7), 99);
        due("crowd(0)", x.crowd(0), true);
    }

    private static void hours() {
        promise = 11;
        FedClocks x = house("r;c;p");
        due("go(0)", x.go(0), -1);
        due("go(61)", x.go(61), -1);
        due("go(-1)", x.go(-1), -1);
        due("go(60)", x.go(60), 60);
        due("go(1)", x.go(1), 61);
        due("without a HOUSE", new FedClocks().go(1), -1);
        // eating, strikes and what is left of them: 2 eat 9 and 8 at STRIKE 5: three strikes and 2
        x = house("r;cf20t5m99h3;pe9;pe8");
        x.go(1);
        due("FAT", clock(x, 0, 2), 34);
        due("EATEN", clock(x, 0, 8), 2);
        due("strikes", clock(x, 0, 9), 3);
        due("LOST", clock(x, 0, 10), 3);
        due("HOURS since", clock(x, 0, 12), 0);
        // all look by the FAT as the HOUR began: both at the thinner one
        x = house("r;cf10;cf11;pe9;pe9");
        x.go(1);
        due("FAT of the thinner", clock(x, 0, 2), 27);
        due("FAT of the other", clock(x, 1, 2), 10);
        // STARVES at 0, not at 1; what it ate does not help then
        x = house("r;cf5h9;cf6h6;cf7h6;pe4");
        x.go(1);
        due("5 + 4 - 9", clock(x, 0, 7), 0);
        due("its FAT", clock(x, 0, 2), 0);
        due("its EATEN", clock(x, 0, 8), 0);
        due("6 - 6", clock(x, 1, 7), 0);
        due("7 - 6", clock(x, 2, 7), 1);
        due("eaten though", x.log(0, 0), 4);
        due("STARVED", x.log(0, 2), 2);
        // nobody looks at what does not live, is elsewhere, faces and is faced
        x = house("r;rs2;r;cf1h1;cf50m99;cf9r1;cf9r2;pe0");
        x.go(1);
        x.send(0, 0);
        due("looks at the living one", x.looks(0), 1);
        x.send(0, 2);
        due("in 2 alone", x.looks(0), 3);
        x.send(0, 1);
        due("in 1 and 2, the lowest of like ones", x.looks(0), 2);
        x.face(2, 3);
        due("one FACES the other: it can be looked at", x.looks(0), 2);
        x.face(3, 2);
        due("both face", x.looks(0), -1);
        x.face(3, 0);
        due("it FACES another", x.looks(0), 2);
        // one that is faced by one that does not live any more
        x = house("r;cf1h1z1;cz0f20m99;pe3");
        due("still now", x.looks(0), -1);
        x.go(1);
        due("not still any more", x.looks(0), 1);
        due("nothing was eaten", x.count(12), 0);
    }

    private static void wildOnes() {
        promise = 11;
        // 12 - 1 above 10: half is 5; one is born with all that; KIND 2 and that of the lowest other
        FedClocks x = house("r;r;cr1k3;ck2f12m10t7h1;ck3f5;pb1");
        x.go(1);
        due("CLOCKS", x.count(1), 4);
        due("FAT", clock(x, 1, 2), 5);
        due("LOST ahead of it", clock(x, 1, 10), 1);
        int[] child = {0, 1, 5, 10, 7, 1, -1, 1, 0, 0, 0, 0, 0};
        for (int what = 0; what <= 12; what++) due("clock(3, " + what + ")", clock(x, 3, what), child[what]);
        due("at MOST it is not WILD", house("r;cf11m10;pb1").wild(1, 0), -1);
        // one born can be the other one for those behind; without another one its own KIND twice
        x = house("r;ck1f50m20;cr0k3f50m20;pb1");
        x.hang(1, 0);
        x.go(1);
        due("KIND of 0's: 1 and 3", clock(x, 2, 5), 0);
        due("KIND of 1's: 3 and 1", clock(x, 3, 5), 0);
        x = house("r;r;ck3f50m20r1;ck1f50m20;pb1");
        x.go(1);
        due("alone: 3 and 3", clock(x, 2, 5), 2);
        due("alone: 1 and 1", clock(x, 3, 5), 2);
        // two in one ROOM whose first starves that very HOUR: the one born is not the other of its own mother
        x = house("r;cf1h1;ck1f90m20;ck1f90m20;pb1");
        x.go(1);
        due("of 1: 1 and 2's 1", clock(x, 3, 5), 2);
        due("of 2: 1 and 1's 1", clock(x, 4, 5), 2);
        // painted ones and those that face bear plain ones
        x = house("r;cf90m20z1;cz0f90m20;pb1");
        x.paint(0, true);
        x.go(1);
        due("FACES nobody", clock(x, 2, 6), -1);
        due("not PAINTED", clock(x, 2, 11), 0);
        // ten at most; WILD all the same
        x = house("r;cf99m1h0;cf99m1h0;cf99m1h0;cf99m1h0;cf99m1h0;cf99m1h0;pb1");
        x.go(1);
        due("CLOCKS", x.count(1), 10);
        due("FAT of the last that bore none", clock(x, 5, 2), 49);
        due("born", x.log(0, 3), 4);
        // a newborn eats, starves and goes WILD from the next HOUR on
        due("FAT of one born", clock(x, 9, 2), 49);
        x.go(1);
        due("one born went WILD", clock(x, 9, 2), 24);
        due("none born", x.log(0, 3), 0);
    }

    private static long x64;

    private static int draw(int m) {
        x64 = x64 * 6364136223846793005L + 1442695040888963407L;
        return (int) Long.remainderUnsigned(x64 >>> 33, m);
    }

    private static void crowds() {
        promise = 12;
        FedClocks x = house("r;r;r;c;p;pb1;p:012");
        due("crowds(0, 1)", x.crowds(0, 1), -1);
        due("crowds(61, 1)", x.crowds(61, 1), -1);
        due("without a HOUSE", new FedClocks().crowds(1, 1), -1);
        due("CROWD 0: nobody is SENT", x.crowds(2, 5), 2);
        due("by its WAY", x.person(2, 2), 1);
        due("not SENT", x.person(2, 3), 0);
        x.crowd(50);
        for (long seed : new long[] {0, 1, -1, 42, Long.MIN_VALUE, 0x123456789abcdefL}) {
            tell(x, "r;r;r;c;p;pb1;p:012");
            int[] at = {0, 0, 0};
            boolean[] sent = new boolean[3];
            x64 = seed;
            for (int hour = 0; hour < 7; hour++)
                for (int p = 0; p < 3; p++) {
                    boolean goes = draw(100) < 50;
                    if (goes) at[p] = draw(3);
                    sent[p] |= goes;
                    if (p == 2 && !sent[p]) at[p] = hour % 3;
                }
            due("crowds(7, " + seed + ")", x.crowds(7, seed), 7);
            for (int p = 0; p < 3; p++) {
                due("seed " + seed + ": person(" + p + ", 2)", x.person(p, 2), at[p]);
                due("seed " + seed + ": person(" + p + ", 3)", x.person(p, 3), sent[p] ? 1 : 0);
            }
            due("ACTS", x.count(10), 7);
            for (int i = 0; i < 7; i++) x.undo();
            due("not SENT any more", x.person(0, 3) + x.person(1, 3) + x.person(2, 3), 0);
        }
    }

    private static void send() {
        promise = 13;
        FedClocks x = house("r;r;c;p");
        due("send(0, -1): it is so", x.send(0, -1), -1);
        due("send(0, 2)", x.send(0, 2), -1);
        due("send(0, -2)", x.send(0, -2), -1);
        due("send(1, 0)", x.send(1, 0), -1);
        due("send(-1, 0)", x.send(-1, 0), -1);
        due("send(0, 0)", x.send(0, 0), 1);
        due("send(0, 0) again", x.send(0, 0), -1);
        due("send(0, 1)", x.send(0, 1), 2);
        due("not there yet", x.person(0, 2), 0);
        due("send(0, -1)", x.send(0, -1), 3);
        due("SENT", x.person(0, 3), 0);
    }

    private static void blind() {
        promise = 14;
        FedClocks x = house("r;c;p;pb1");
        due("blind(0, false): it is so", x.blind(0, false), -1);
        due("blind(1, true): it is so", x.blind(1, true), -1);
        due("blind(2, true)", x.blind(2, true), -1);
        due("blind(-1, true)", x.blind(-1, true), -1);
        due("blind(0, true)", x.blind(0, true), 1);
        due("blind(1, false)", x.blind(1, false), 2);
        due("BLIND", x.person(0, 1), 1);
        x.go(1);
        due("one alone eats", x.count(12), 2);
    }

    private static void hang() {
        promise = 15;
        FedClocks x = house("r;r;cf1;cf50;pb1");
        due("hang(0, 0): it hangs there", x.hang(0, 0), -1);
        due("hang(0, 2)", x.hang(0, 2), -1);
        due("hang(0, -1)", x.hang(0, -1), -1);
        due("hang(2, 1)", x.hang(2, 1), -1);
        due("hang(-1, 1)", x.hang(-1, 1), -1);
        due("hang(1, 1)", x.hang(1, 1), 1);
        due("its ROOM", clock(x, 1, 0), 1);
        x.go(1);
        due("hang of one that starved", x.hang(0, 1), -1);
    }

    private static void face() {
        promise = 16;
        FedClocks x = house("r;cf1;cf50;c;pb1");
        due("face(1, -1): it is so", x.face(1, -1), -1);
        due("face(1, 1): itself", x.face(1, 1), -1);
        due("face(1, 3)", x.face(1, 3), -1);
        due("face(1, -2)", x.face(1, -2), -1);
        due("face(3, 1)", x.face(3, 1), -1);
        due("face(-1, 1)", x.face(-1, 1), -1);
        due("face(1, 2)", x.face(1, 2), 1);
        due("face(1, 2) again", x.face(1, 2), -1);
        x.go(1);
        due("one that starved can be faced", x.face(1, 0), 3);
        due("but faces none", x.face(0, 1), -1);
        due("nobody", x.face(1, -1), 4);
        due("FACES", clock(x, 1, 6), -1);
    }

    private static void wind() {
        promise = 17;
        FedClocks x = house("r;cf1;cf70;pb1");
        due("wind(1, 0)", x.wind(1, 0), -1);
        due("wind(1, 21)", x.wind(1, 21), -1);
        due("wind(2, 1)", x.wind(2, 1), -1);
        due("wind(-1, 1)", x.wind(-1, 1), -1);
        due("wind(1, 1)", x.wind(1, 1), 71);
        due("wind(1, 20)", x.wind(1, 20), 91);
        due("wind(1, 20): 99 at most", x.wind(1, 20), 99);
        due("wind(1, 1): an ACT too", x.wind(1, 1), 99);
        due("ACTS", x.count(10), 4);
        x.go(1);
        due("wind of one that starved", x.wind(0, 5), -1);
    }

    private static void paint() {
        promise = 18;
        FedClocks x = house("r;cf1;cf10;cf11;pe5");
        due("paint(1, false): it is so", x.paint(1, false), -1);
        due("paint(3, true)", x.paint(3, true), -1);
        due("paint(-1, true)", x.paint(-1, true), -1);
        x.blind(0, true);
        x.go(1);
        due("paint of one that starved", x.paint(0, true), -1);
        x.blind(0, false);
        due("paint(1, true)", x.paint(1, true), 4);
        due("paint(1, true) again", x.paint(1, true), -1);
        due("PAINTED", clock(x, 1, 11), 1);
        due("it is looked at as ever", x.looks(0), 1);
        x.go(1);
        due("but eats nothing", clock(x, 1, 2), 8);
        due("that is lost", x.log(0, 0), 0);
        due("paint(1, false)", x.paint(1, false), 6);
        x.go(1);
        due("it eats again", clock(x, 1, 2), 12);
    }

    private static void undo() {
        promise = 19;
        FedClocks x = house("r;r;cf50m99;c;p");
        x.send(0, 1);
        x.hang(1, 1);
        x.go(2);
        x.face(0, 1);
        x.wind(0, 5);
        x.paint(1, true);
        x.blind(0, true);
        due("undo of blind", x.undo(), 7);
        due("BLIND", x.person(0, 1), 0);
        due("undo of paint", x.undo(), 6);
        due("PAINTED", clock(x, 1, 11), 0);
        due("undo of wind", x.undo(), 5);
        due("FAT", clock(x, 0, 2), 48);
        due("undo of face", x.undo(), 4);
        due("FACES", clock(x, 0, 6), -1);
        due("undo of an HOUR", x.undo(), 3);
        due("HOUR", x.count(6), 1);
        due("put by", x.count(11), 1);
        due("ALL eaten", x.count(12), 2);
        due("undo of an HOUR", x.undo(), 2);
        due("where it is", x.person(0, 2), 0);
        due("undo of hang", x.undo(), 1);
        due("undo of send", x.undo(), 0);
        due("SENT", x.person(0, 3), 0);
        due("undo of nothing", x.undo(), -1);
        // the latest 40
        x.go(60);
        due("ACTS", x.count(10), 40);
        x.hang(0, 1);
        due("still 40", x.count(10), 40);
        for (int i = 39; i >= 0; i--) due("undo", x.undo(), i);
        due("undo beyond", x.undo(), -1);
        due("HOUR", x.count(6), 21);
        // what is put by of 60 HOURS is so again when later ones are undone
        x = house("r;cf1m99h0;pe1");
        x.go(60);
        x.paint(0, true);
        x.go(39);
        due("put by", x.count(11), 60);
        due("the 60th", x.log(59, 0), 1);
        due("the 39th", x.log(38, 0), 0);
        for (int i = 0; i < 40; i++) x.undo();
        due("put by", x.count(11), 60);
        due("the latest", x.log(0, 0), 1);
        due("the 60th", x.log(59, 0), 1);
    }

    private static void log() {
        promise = 20;
        FedClocks x = house("r;cf2h1t3m99;cf1h1;cf80m20r0;pe7");
        due("log(0, 0) of none", x.log(0, 0), -1);
        due("without a HOUSE", new FedClocks().log(0, 0), -1);
        x.go(1);
        // the second is the thinnest: it eats 7 (strikes none at 8); the third goes WILD
        due("eaten", x.log(0, 0), 7);
        due("strikes", x.log(0, 1), 0);
        due("STARVED", x.log(0, 2), 0);
        due("born", x.log(0, 3), 1);
        x.go(1);
        // now the first (FAT 1): it eats 7 and strikes twice
        due("eaten", x.log(0, 0), 7);
        due("strikes", x.log(0, 1), 2);
        due("ahead of it: born", x.log(1, 3), 1);
        due("ahead of it: strikes", x.log(1, 1), 0);
        due("log(2, 0)", x.log(2, 0), -1);
        due("log(-1, 0)", x.log(-1, 0), -1);
        due("log(0, 4)", x.log(0, 4), -1);
        due("log(0, -1)", x.log(0, -1), -1);
        x.go(60);
        due("put by", x.count(11), 60);
        due("log(59, 0)", x.log(59, 0) >= 0, true);
        due("log(60, 0)", x.log(60, 0), -1);
    }

    private static void ahead() {
        promise = 21;
        FedClocks x = house("r;cf5h2;cf99m50h0;pb1");
        due("ahead(0, 0)", x.ahead(0, 0), 5);
        due("ahead(0, 2)", x.ahead(0, 2), 1);
        due("ahead(0, 3)", x.ahead(0, 3), 0);
        due("ahead(0, 60)", x.ahead(0, 60), 0);
        due("ahead(2, 0): not there", x.ahead(2, 0), 0);
        due("ahead(2, 1): born", x.ahead(2, 1), 49);
        due("ahead(9, 1)", x.ahead(9, 1), 0);
        due("ahead(10, 1)", x.ahead(10, 1), -1);
        due("ahead(-1, 1)", x.ahead(-1, 1), -1);
        due("ahead(0, 61)", x.ahead(0, 61), -1);
        due("ahead(0, -1)", x.ahead(0, -1), -1);
        due("HOUR is as it was", x.count(6), 0);
        due("CLOCKS are as they were", x.count(1), 2);
        due("put by is as it was", x.count(11) + x.count(10), 0);
    }

    private static void starves() {
        promise = 22;
        FedClocks x = house("r;cf9h2;cf5h1;cf5h1;pb1");
        due("starves(4, 0)", x.starves(4, 0), -1);
        due("starves(4, 1)", x.starves(4, 1), -1);
        due("starves(5, 0): the lowest of three", x.starves(5, 0), 0);
        due("starves(5, 1)", x.starves(60, 1), 5);
        x.wind(0, 1);
        due("still in the fifth", x.starves(60, 0), 0);
        x.wind(0, 1);
        due("now another", x.starves(60, 0), 1);
        int[][] none = {{0, 0}, {61, 0}, {5, 2}, {5, -1}};
        for (int[] n : none) due("starves(" + n[0] + ", " + n[1] + ")", x.starves(n[0], n[1]), -1);
        x.go(5);
        due("of those that live", x.starves(60, 0), 0);
        due("from now", x.starves(60, 1), 1);
        x.go(1);
        due("none lives", x.starves(60, 1), -1);
    }

    private static void wild() {
        promise = 23;
        FedClocks x = house("r;cf10m10h1;cf20m23h1;pe9");
        // FAT 10 is the thinnest and goes to 18: WILD at once
        due("wild(1, 0)", x.wild(1, 0), 0);
        due("wild(1, 1)", x.wild(1, 1), 1);
        x.hang(0, 0);
        x = house("r;r;cr1;cf20m27h1;pe5");
        // 24, 28: in the second
        due("wild(1, 1)", x.wild(1, 1), -1);
        due("wild(2, 0)", x.wild(2, 0), 1);
        due("wild(60, 1)", x.wild(60, 1), 2);
        int[][] none = {{0, 0}, {61, 0}, {5, 2}, {5, -1}};
        for (int[] n : none) due("wild(" + n[0] + ", " + n[1] + ")", x.wild(n[0], n[1]), -1);
        due("without a HOUSE", new FedClocks().wild(1, 0), -1);
    }

    private static void full() {
        promise = 24;
        due("full(): never", house("r;c;p").full(), -1);
        due("without a HOUSE", new FedClocks().full(), -1);
        FedClocks x = house("r;cf96m1h0;pb1");
        // 1, 2, 4, 8, 10 CLOCKS: FAT 96, 48, 24, 12, 6
        due("full()", x.full(), 4);
        x.go(3);
        due("full()", x.full(), 1);
        x.go(1);
        due("full(): now", x.full(), 0);
        // all the same whether they live: six and four more, then all starve
        x = house("r;cf99m30h9;cf99m30h9;cf99m30h9;cf99m30h9;cf99m30h9;cf99m30h9;pb1");
        x.go(20);
        due("none lives", x.count(8), 0);
        due("full() still", x.full(), 0);
    }

    private static void kinds() {
        promise = 25;
        FedClocks x = house("r;ck1f3;ck1f99m99h0;ck2f1;pb1");
        due("kinds(1, 0)", x.kinds(1, 0), 2);
        due("kinds(2, 0)", x.kinds(2, 0), 1);
        due("kinds(2, 1): starved", x.kinds(2, 1), 0);
        due("kinds(1, 2)", x.kinds(1, 2), 2);
        due("kinds(1, 3): starved", x.kinds(1, 3), 1);
        due("kinds(0, 60)", x.kinds(0, 60), 0);
        int[][] none = {{-1, 0}, {4, 0}, {0, -1}, {0, 61}};
        for (int[] n : none) due("kinds(" + n[0] + ", " + n[1] + ")", x.kinds(n[0], n[1]), -1);
        due("without a HOUSE", new FedClocks().kinds(0, 0), -1);
        x = house("r;ck1f99m60h0;ck2f50m99;pb1");
        due("kinds(3, 1): 1 and 2", x.kinds(3, 1), 1);
        due("kinds(3, 0)", x.kinds(3, 0), 0);
    }

    private static void rota() {
        promise = 26;
        // each of two hungry ones in its ROOM wants one looker: 01 and 10
        FedClocks x = house("r;r;cf2h2;cr1f2h2;p;p");
        due("rota(1, -1)", x.rota(1, -1), 2);
        due("rota(1, 0)", x.rota(1, 0), 1);
        due("rota(1, 1)", x.rota(1, 1), 10);
        due("rota(1, 2)", x.rota(1, 2), -1);
        due("rota(1, -2)", x.rota(1, -2), -1);
        due("rota(12, -1)", x.rota(12, -1), 2);
        due("rota(0, -1)", x.rota(0, -1), -1);
        due("rota(13, -1)", x.rota(13, -1), -1);
        due("without a HOUSE", new FedClocks().rota(1, -1), -1);
        // a BLIND one is SENT too, which changes nothing
        x.blind(1, true);
        due("with a BLIND one", x.rota(1, -1), 0);
        x = house("r;r;r;cf2h2r2;p;pb1");
        due("a BLIND one anywhere", x.rota(3, -1), 3);
        due("the lowest", x.rota(3, 0), 20);
        due("the highest", x.rota(3, 2), 22);
        // WILD is no good either
        x = house("r;r;cf20m21h1;pe2;p:1");
        due("one of them is too much by the second HOUR", x.rota(2, -1), 1);
        due("both away", x.rota(2, 0), 11);
        due("for one HOUR either may look", x.rota(1, -1), 3);
        due("SENT is as it was", x.person(0, 3) + x.person(1, 3), 0);
    }

    private static void fewest() {
        promise = 27;
        FedClocks x = house("r;r;cf2h2;cr1f50m99;p;pe3;pe3");
        // any one does for one HOUR: the least is PERSON 0
        due("fewest(1)", x.fewest(1), 1);
        x.blind(0, true);
        due("fewest(1) with 0 BLIND", x.fewest(1), 2);
        x = house("r;r;cf1h4;cr1f50m99;p;pe3;pe2");
        due("two together: the least of several", x.fewest(1), 3);
        due("nobody", house("r;cf50m99;p").fewest(12), 0);
        due("there are none", house("r;cf1h9;p").fewest(1), -1);
        due("fewest(0)", x.fewest(0), -1);
        due("fewest(13)", x.fewest(13), -1);
        due("without a HOUSE", new FedClocks().fewest(1), -1);
        // others do as if BLIND: with both it goes WILD, with one it lives
        x = house("r;cf9h3m9;pe9;pe3");
        due("the second alone", x.fewest(4), 2);
        due("rota has none", x.rota(4, -1), 0);
    }

    private static void best() {
        promise = 28;
        FedClocks x = house("r;r;cf2h2;cf2h2;p;p:1");
        // one in each ROOM, 01 the least
        due("best(1, 0)", x.best(1, 0), 1);
        due("best(1, 1)", x.best(1, 1), 2);
        due("best(24, 1)", x.best(24, 1), 2);
        due("their ROOMS are as they were", clock(x, 1, 0), 0);
        int[][] none = {{0, 0}, {25, 0}, {1, 2}, {1, -1}};
        for (int[] n : none) due("best(" + n[0] + ", " + n[1] + ")", x.best(n[0], n[1]), -1);
        due("without a HOUSE", new FedClocks().best(1, 0), -1);
        // digits of the living ones alone
        x = house("r;r;cf1h9;cf6h2;cf4h2;p;p:1");
        x.go(1);
        due("two live", x.count(8), 2);
        due("best(1, 0)", x.best(12, 0), 1);
        x = house("r;cf1;p:0;pb1");
        x.blind(0, true);
        x.go(1);
        due("none lives", x.best(1, 0), -1);
        // those that are born count; more than six are too many
        x = house("r;cf90m20h0;cf90m20h0;cf90m20h0;cf90m20h0;pb1");
        due("best(1, 1)", x.best(1, 1), 8);
        x.go(1);
        due("eight live", x.best(1, 0), -1000000);
        due("best(0, 0) of eight", x.best(0, 0), -1);
    }

    private static void shows() {
        promise = 29;
        FedClocks x = house("r;cf31h1m99;cf2h1;cf99m40h0;pb1");
        due("shows(0)", x.shows(0), 0);
        x.go(1);
        // FAT 30: 3 minutes; FAT 99: 9, and half of it then
        due("shows(0)", x.shows(0), 57);
        due("shows(1)", x.shows(1), 60);
        due("shows(2)", x.shows(2), 51);
        due("shows(3): born", x.shows(3), 0);
        x.go(2);
        // 29, 28: 2 each; the second starved in its second HOUR
        due("shows(0)", x.shows(0), 173);
        due("shows(1)", x.shows(1), 120);
        due("shows(5)", x.shows(x.count(1)), -1000000);
        due("shows(-1)", x.shows(-1), -1000000);
        due("without a HOUSE", new FedClocks().shows(0), -1000000);
    }

    private static void near() {
        promise = 30;
        FedClocks x = house("r;cf31m99;cf1;cf99m99;cf15;pb1");
        due("near(0)", x.near(0), 15);
        x.go(1);
        due("near(0)", x.near(0), 0);
        due("near(1)", x.near(1), 8);
        due("near(3)", x.near(3), 9);
        due("near(9)", x.near(9), 13);
        due("near(8)", x.near(8), 9);
        due("near(-1)", x.near(-1), -1);
        due("without a HOUSE", new FedClocks().near(0), -1);
    }

    private static void middle() {
        promise = 31;
        FedClocks x = house("r;cf31m99;cf1;cf99m99;cf15;pb1");
        due("middle()", x.middle(), 0);
        x.go(1);
        due("middle() of 1, 3, 9", x.middle(), 3);
        x = house("r;cf61m99;cf31;cf99m99;cf15;pb1");
        x.go(1);
        due("middle() of 1, 3, 6, 9", x.middle(), 3);
        x = house("r;cf61m99;cf61m99;cf99m99;pb1");
        x.go(1);
        due("middle() of 6, 6, 9", x.middle(), 6);
        x = house("r;cf1;pb1");
        x.go(1);
        due("none lives", x.middle(), -1);
        due("without a HOUSE", new FedClocks().middle(), -1);
    }

    private static void ring() {
        promise = 32;
        FedClocks x = house("r;cz1f1;cz2;cz0;cz0;c;cz4;pb1");
        due("ring(0)", x.ring(0), 3);
        due("ring(1)", x.ring(1), 3);
        due("ring(3): into a ring without it", x.ring(3), -1);
        due("ring(4): nobody", x.ring(4), -1);
        due("ring(5)", x.ring(5), -1);
        due("ring(6)", x.ring(6), -1);
        due("ring(-1)", x.ring(-1), -1);
        x.go(1);
        due("ring(0), not living", x.ring(0), 3);
        x.face(4, 5);
        due("ring(5)", x.ring(5), 2);
        x = house("r;cz1;cz2;cz3;cz4;cz5;cz0;p");
        due("ring of all", x.ring(3), 6);
    }

    private static void still() {
        promise = 33;
        FedClocks x = house("r;cz1;cz0;cz4f1;cz4;cz2;c;pb1");
        due("still()", x.still(), 1 + 2 + 4 + 16);
        x.go(1);
        due("still() of living ones", x.still(), 3);
        x.face(0, 3);
        due("still()", x.still(), 0);
        due("without a HOUSE", new FedClocks().still(), -1);
    }

    private static void deaths() {
        promise = 34;
        FedClocks x = house("r;cz1f9h2;cz0f20h4;cz0;p");
        // 9 by 2: in the fifth HOUR; 20 by 4: in the fifth
        due("deaths(0)", x.deaths(0), 5);
        due("deaths(1)", x.deaths(1), 5);
        x.wind(0, 20);
        due("deaths(0)", x.deaths(0), 5);
        x.wind(1, 20);
        due("deaths(0): 29 by 2, 40 by 4", x.deaths(0), 10);
        due("deaths(2): it is not faced", x.deaths(2), -1);
        due("deaths(3)", x.deaths(3), -1);
        due("deaths(-1)", x.deaths(-1), -1);
        x = house("r;cz1h0;cz0h0;p");
        due("never", x.deaths(0), -1);
        x = house("r;cz1h0;cz0h3f7;p");
        due("one never", x.deaths(0), 3);
        due("one never", x.deaths(1), 3);
        x.go(3);
        due("one lives no more", x.deaths(0), -1);
        due("one lives no more", x.deaths(1), -1);
    }

    private static void hear() {
        promise = 35;
        FedClocks x = house("r;c;p");
        due("hear(0, 0)", x.hear(0, 0), -1);
        due("hear(7, 0)", x.hear(7, 0), -1);
        due("hear(1, -1)", x.hear(1, -1), -1);
        due("hear(1, 1000)", x.hear(1, 1000), -1);
        due("without a HOUSE", new FedClocks().hear(1, 0), -1);
        due("hear(6, 999)", x.hear(6, 999), 1);
        for (int i = 2; i <= 6; i++) due("hear", x.hear(1, 0), i);
        due("a seventh", x.hear(1, 0), -1);
        due("count(9)", x.count(9), 6);
    }

    private static void thief() {
        promise = 36;
        // 0 strikes when looked at, so does 1; nothing is in ROOM 2
        FedClocks x = house("r;r;r;cf50t1m99;cr1f50t2m99;pe2;pb1");
        due("nothing heard", x.thief(0, 2, -1), 9);
        due("the fourth", x.thief(0, 2, 3), 10);
        due("the last", x.thief(0, 4, 80), 2222);
        x.hear(1, 2);
        due("two strikes: in 0", x.thief(0, 1, -1), 1);
        due("it", x.thief(0, 1, 0), 0);
        due("no such one", x.thief(0, 1, 1), -1);
        x.hear(2, 1);
        due("then in 1", x.thief(0, 2, 0), 1);
        due("that alone", x.thief(0, 2, -1), 1);
        due("behind it anywhere", x.thief(0, 3, -1), 3);
        due("first to last", x.thief(0, 3, 2), 12);
        due("it stays, so no", x.thief(0, 1, -1), 0);
        x.send(0, 1);
        due("it is SENT there", x.thief(0, 1, -1), 1);
        x.send(0, 2);
        due("it is SENT elsewhere", x.thief(0, 1, -1), 0);
        due("a BLIND one", x.thief(1, 1, -1), 0);
        int[][] none = {{2, 1, -1}, {-1, 1, -1}, {0, 0, -1}, {0, 5, -1}, {0, 1, -2}};
        for (int[] n : none) due("thief(" + n[0] + ", " + n[1] + ", " + n[2] + ")", x.thief(n[0], n[1], n[2]), -1);
        due("without a HOUSE", new FedClocks().thief(0, 1, -1), -1);
        // behind its rows it goes its WAY, by the HOUR
        x = house("r;r;cf50t1m99;pe1:10");
        x.hear(3, 0);
        x.hear(4, 1);
        due("WAY behind 2", x.thief(0, 2, -1), 4);
        x.go(1);
        due("an HOUR later", x.thief(0, 2, -1), 0);
        due("all of them known", x.thief(0, 4, -1), 4);
    }

    private static void lures() {
        promise = 37;
        // one looker with EYES 2; alike but for their FAT: 0 is ahead by 4
        FedClocks x = house("r;cf50m99;cf54m99;pe2");
        // for one HOUR 20 is to be had; at PRICE 0 whoever has it rests
        due("the one has it anyway, unless", x.lures(0, 1, 1, 30, -1), 1);
        due("no LURE", x.lures(0, 1, 1, 30, 0), 0);
        due("no such one", x.lures(0, 1, 1, 30, 1), -1);
        int[][] none = {{0, 0, 1, 0, -1}, {0, 2, 1, 0, -1}, {-1, 1, 1, 0, -1}, {0, 1, 0, 0, -1}, {0, 1, 13, 0, -1}, {0, 1, 1, -1, -1}, {0, 1, 1, 100, -1}, {0, 1, 1, 0, -2}};
        for (int[] n : none) due("lures of wrong ones", x.lures(n[0], n[1], n[2], n[3], n[4]), -1);
        due("without a HOUSE", new FedClocks().lures(0, 1, 1, 0, -1), -1);
        // PRICE 0, one HOUR: the one has it as long as its LURE is not below the other's: it rests where
        // it has it and the other can't (3 x), or where the other can't have more whatever it does
        int count = 0;
        for (int a = 0; a < 4; a++) {
            for (int b = 0; b < 4; b++) {
                boolean oneHas = a >= b;
                // the other could have it with 3, unless the one chose 3; the one could have it with 3 always
                boolean rests = oneHas && a == 3;
                if (rests) {
                    due("RESTS by PRICE 0", x.lures(0, 1, 1, 0, count), 10 * a + b);
                    count++;
                }
            }
        }
        due("how many", x.lures(0, 1, 1, 0, -1), count);
        // in two ROOMS nobody gains by a LURE
        x = house("r;r;cf50m99;cr1f50m99;p;p:1");
        due("a PRICE: none", x.lures(0, 1, 12, 1, -1), 1);
        due("no PRICE: all alike", x.lures(0, 1, 12, 0, -1), 16);
        due("the last", x.lures(1, 0, 12, 0, 15), 33);
        due("the fifth", x.lures(1, 0, 12, 0, 4), 10);
        x = house("r;cf1;cf50;pb1");
        x.go(1);
        due("one lives no more", x.lures(0, 1, 1, 0, -1), -1);
    }

    private static void later() {
        promise = 38;
        // FAT 10, HUNGER 3, EYES 2: starves in the 10th; with 3 never
        FedClocks x = house("r;ch3;p;pb1");
        due("starves", x.starves(60, 1), 10);
        due("later(0): never", x.later(0), 51);
        due("later(1): BLIND", x.later(1), 0);
        due("later(2)", x.later(2), -1000000);
        due("later(-1)", x.later(-1), -1000000);
        due("EYES are as they were", x.person(0, 0), 2);
        x = house("r;ch0m99f50;p");
        due("neither", x.later(0), 0);
        // sooner: with 3 it goes WILD in the second HOUR and is half then
        x = house("r;cf9m10h2t99;pe2;pb1");
        due("never starves", x.starves(60, 0), -1);
        x = house("r;cf9m10h3t99;pe3");
        due("never starves", x.starves(60, 0), -1);
        due("with 4: 10, 11 is half", x.later(0) < 0, true);
        due("without a HOUSE", new FedClocks().later(0), -1000000);
    }

    private static void spared() {
        promise = 39;
        // the first is thinner and has all looks; PAINTED it starves, and then the other has them
        FedClocks x = house("r;cf10h2;cf20h2;pe2");
        due("two live behind 1 whichever", x.spared(1, 1), 2);
        due("the lowest", x.spared(1, 0), 0);
        due("behind 12, PAINTED 0: 0 starves in the 5th", x.spared(12, 1), 1);
        due("PAINTED 1: 1 starves in the 10th", x.spared(9, 0), 1);
        due("both live till then", x.spared(9, 1), 2);
        due("PAINTED are as they were", clock(x, 0, 11) + clock(x, 1, 11), 0);
        int[][] none = {{0, 0}, {25, 0}, {1, 2}, {1, -1}};
        for (int[] n : none) due("spared(" + n[0] + ", " + n[1] + ")", x.spared(n[0], n[1]), -1);
        due("without a HOUSE", new FedClocks().spared(1, 0), -1);
        x = house("r;cf1;cf50;pb1");
        x.go(1);
        due("the lowest living one", x.spared(1, 0), 1);
        x = house("r;cf1;pb1");
        x.go(1);
        due("none lives", x.spared(1, 0), -1);
    }

    private static void seen() {
        promise = 40;
        FedClocks x = house("rs1;r;cf1;c;cr1;cr1z4;cr1z3;p;pb1");
        due("seen(0, 0)", x.seen(0, 0), 1 + 2 + 4);
        due("seen(0, 1)", x.seen(0, 1), 4);
        due("seen(1, 0): BLIND or not", x.seen(1, 0), 7);
        x.blind(0, true);
        x.go(1);
        due("seen(0, 0)", x.seen(0, 0), 6);
        int[][] none = {{2, 0}, {-1, 0}, {0, 2}, {0, -1}};
        for (int[] n : none) due("seen(" + n[0] + ", " + n[1] + ")", x.seen(n[0], n[1]), -1);
    }

    private static void looks() {
        promise = 41;
        FedClocks x = house("r;r;c;cr1;p:01;pb1;p");
        due("looks(0)", x.looks(0), 0);
        x.go(1);
        due("looks(0): by its WAY", x.looks(0), 1);
        due("where it is still", x.person(0, 2), 0);
        due("looks(1): BLIND", x.looks(1), -1);
        x.send(2, 1);
        due("looks(2): where it is SENT", x.looks(2), 1);
        x.hang(1, 0);
        due("looks(2): at nothing", x.looks(2), -1);
        due("looks(3)", x.looks(3), -1);
        due("looks(-1)", x.looks(-1), -1);
    }

    private static void child() {
        promise = 42;
        FedClocks x = house("r;cf80m30h0;pb1");
        x.go(2);
        // 80: 40 and 40; 20, 20 and 20, 20: the first's are 1 and 2, the second's is 3
        due("CLOCKS", x.count(1), 4);
        int[] mothers = {-1, 0, 0, 1};
        int[] lines = {0, 1, 1, 2};
        for (int c = 0; c < 4; c++) {
            due("child(" + c + ", 0)", x.child(c, 0), mothers[c]);
            due("child(" + c + ", 1)", x.child(c, 1), lines[c]);
        }
        int[][] none = {{4, 0}, {-1, 0}, {0, 2}, {0, -1}};
        for (int[] n : none) due("child(" + n[0] + ", " + n[1] + ")", x.child(n[0], n[1]), -1000000);
    }

    private static void image() {
        promise = 43;
        FedClocks x = house("r;r;cf90m40h0;p");
        due("image()", x.image(), 0);
        x.go(3);
        due("image() instead", x.image(), 3);
        due("it is no ACT", x.count(10), 3);
        x.go(1);
        due("back()", x.back(), 3);
        due("without a HOUSE", new FedClocks().image(), -1);
    }

    private static void back() {
        promise = 44;
        FedClocks x = house("r;r;cf90m40h0t1;pe1:01;p");
        due("back() without", x.back(), -1);
        x.send(1, 1);
        x.paint(0, true);
        x.go(1);
        x.paint(0, false);
        x.image();
        x.go(4);
        x.send(1, -1);
        x.blind(0, true);
        int eaten = x.count(12);
        due("something was eaten", eaten > 0, true);
        due("back()", x.back(), 1);
        due("CLOCKS", x.count(1), 2);
        due("FAT", clock(x, 0, 2), 45);
        due("SENT", x.person(1, 3), 1);
        due("BLIND", x.person(0, 1), 0);
        due("where it is", x.person(1, 2), 1);
        due("ALL", x.count(12) + x.count(13), 0);
        due("no ACT", x.count(10), 0);
        due("undo()", x.undo(), -1);
        due("what is put by stays", x.count(11), 5);
        x.go(1);
        due("and more comes", x.count(11), 6);
        due("back() again", x.back(), 1);
        tell(x, "r;c;p");
        due("another HOUSE", x.back(), -1);
    }

    private static void count() {
        promise = 45;
        FedClocks x = house("r;r;cf1;cf50m99;c;pe8;p;p;p");
        put(x, "y:0-f");
        x.text(1);
        x.taste(0);
        put(x, "abc");
        x.crowd(3);
        x.hear(1, 1);
        x.hear(2, 1);
        x.blind(1, true);
        x.go(2);
        // the first is looked at by three: 1 + 12 - 1, then the third at FAT 9
        int[] want = {2, 3, 4, 1, 3, 0, 2, 3, 3, 2, 3, 2, 24, 2};
        for (int what = 0; what < want.length; what++) due("count(" + what + ")", x.count(what), want[what]);
        due("count(14)", x.count(14), -1000000);
        due("count(-1)", x.count(-1), -1000000);
        x.undo();
        due("ALL eaten less the UNDONE", x.count(12), 12);
        due("ALL strikes less the UNDONE", x.count(13), 1);
    }
}
