/** The sentences about the TAPE, HOUSES and TASTES as texts: each bound of each, inside and outside. */
public final class TextBoundsTest {
    public static void main(String[] args) {
        rooms();
        clocks();
        persons();
        order();
        items();
        roomItems();
        clockItems();
        personItems();
        ways();
        tastesAtMost();
        tasteClauses();
        tasteSigns();
        tasteNumbers();
        conditionsAhead();
        sixDeep();
        blanks();
        goesOn();
        endsTooEarly();
        notTold();
        wrongNumbers();
        wrongLetters();
        tooMany();
        feed();
        end();
        fault();
        text();
        sees();
        taste();
        Say.end();
    }

    private static void rooms() {
        Say.inTerms(1, "A HOUSE is a TEXT: CLAUSES with ; between: r (a ROOM; 1 .. 5)");
        Say.faultOf("c;p", 0, 3);
        for (int n = 1; n <= 5; n++) {
            FedClocks x = Say.house("r;".repeat(n) + "c;p");
            Say.due("ROOMS", x.count(0), n);
            Say.due("sees(" + (n - 1) + ")", x.sees(n - 1), -1);
        }
        Say.faultOf("r;r;r;r;r;r;c;p", 0, 10);
        Say.faultOf("c;p;r;r;r;r;r;r", 0, 14);
        Say.faultOf("rr;c;p", 0, 1);
        Say.faultOf("r c;p", 0, 2);
    }

    private static void clocks() {
        Say.inTerms(1, "c (a CLOCK; 1 .. 6)");
        Say.faultOf("r;p", 0, 3);
        for (int n = 1; n <= 6; n++) {
            FedClocks x = new FedClocks();
            Say.due("text(0)", Say.tell(x, "r;p" + ";c".repeat(n)), n);
            Say.due("CLOCKS", x.count(1), n);
        }
        Say.faultOf("r;p;c;c;c;c;c;c;c", 0, 16);
        Say.faultOf("c;c;c;c;c;c;cf1;r;p", 0, 12);
    }

    private static void persons() {
        Say.inTerms(1, "p (a PERSON; 1 .. 6)");
        Say.faultOf("r;c", 0, 3);
        for (int n = 1; n <= 6; n++) Say.due("PERSONS", Say.house("r;c" + ";p".repeat(n)).count(2), n);
        Say.faultOf("r;c;p;p;p;p;p;p;p", 0, 16);
        Say.faultOf("p;p;p;p;p;p;pe1;r;c", 0, 12);
    }

    private static void order() {
        Say.inTerms(1, "in any order, then");
        for (String t : new String[] {"r;c;p", "r;p;c", "c;r;p", "c;p;r", "p;r;c", "p;c;r", "p;c;r;p;c;r", "cr1;p;r;c;r"}) Say.faultOf(t, 0, -1);
        FedClocks x = Say.house("cf1;r;pe1;cf2;rs0;pe2");
        Say.due("the first CLOCK's FAT", Say.clock(x, 0, 2), 1);
        Say.due("the second CLOCK's FAT", Say.clock(x, 1, 2), 2);
        Say.due("the first PERSON's EYES", x.person(0, 0), 1);
        Say.due("the second PERSON's EYES", x.person(1, 0), 2);
        Say.due("sees(0)", x.sees(0), -1);
        Say.due("sees(1)", x.sees(1), 0);
    }

    private static void items() {
        Say.inTerms(1, "ITEMS, none or more: a letter, each once at most in a CLAUSE, and a number (one or two digits)");
        Say.faultOf("r;c;p", 0, -1);
        Say.faultOf("rs0;cr0h1f1m1t1k1z6;pe1b1", 0, -1);
        Say.faultOf("rs00;cz06k01t01m01f01h01r00;pb01e01", 0, -1);
        Say.faultOf("r;cf1;cf1;pe1;pe1", 0, -1);
        Say.faultOf("r;cf1f1;p", 0, 5);
        Say.faultOf("r;cf1h1m1f1;p", 0, 9);
        Say.faultOf("r;cf1ff;p", 0, 5);
        Say.faultOf("r;cf;p", 0, 4);
        Say.faultOf("r;cf", 0, 4);
        Say.faultOf("r;c1;p", 0, 3);
    }

    private interface Told {
        int of(FedClocks x);
    }

    /** Each number from 0 to 199, of one digit and of more: what it is, or where it is wrong. */
    private static void numbers(String ahead, String behind, int least, int most, Told told) {
        for (int v = 0; v < 200; v++)
            for (int zero = 0; zero <= 1; zero++) {
                String digits = (zero == 1 ? "0" : "") + v;
                String t = ahead + digits + behind;
                int at = ahead.length() + digits.length() - 1;
                if (digits.length() > 2) Say.faultOf(t, 0, ahead.length() + 2);
                else if (v < least || v > most) Say.faultOf(t, 0, at);
                else Say.due(t, told.of(Say.house(t)), v);
                if (digits.length() <= 2 && (v < least || v > most)) Say.faultOf(ahead + digits, 0, at);
            }
    }

    private static void roomItems() {
        Say.inTerms(1, "of r: s the ROOM that one SEES from it, too (0 .. 5; 5: none; 5 without)");
        numbers("r;r;r;r;rs", ";c;p", 0, 5, x -> x.sees(4) == -1 ? 5 : x.sees(4));
        Say.due("5: none", Say.house("rs5;c;p").sees(0), -1);
        Say.due("5 without", Say.house("r;c;p").sees(0), -1);
    }

    private static void clockItems() {
        Say.inTerms(1, "of c: r its ROOM (0 .. 4; 0)");
        numbers("r;r;r;r;r;cr", ";p", 0, 4, x -> Say.clock(x, 0, 0));
        Say.due("without", Say.clock(Say.house("r;r;c;p"), 0, 0), 0);
        Say.inTerms(1, "h HUNGER (0 .. 9; 1)");
        numbers("r;ch", ";p", 0, 9, x -> Say.clock(x, 0, 1));
        Say.due("without", Say.clock(Say.house("r;c;p"), 0, 1), 1);
        Say.inTerms(1, "f FAT (1 .. 99; 10)");
        numbers("r;cf", ";p", 1, 99, x -> Say.clock(x, 0, 2));
        Say.due("without", Say.clock(Say.house("r;c;p"), 0, 2), 10);
        Say.inTerms(1, "m MOST (1 .. 99; 40)");
        numbers("r;cm", ";p", 1, 99, x -> Say.clock(x, 0, 3));
        Say.due("without", Say.clock(Say.house("r;c;p"), 0, 3), 40);
        Say.inTerms(1, "t STRIKE (1 .. 99; 8)");
        numbers("r;ct", ";p", 1, 99, x -> Say.clock(x, 0, 4));
        Say.due("without", Say.clock(Say.house("r;c;p"), 0, 4), 8);
        Say.inTerms(1, "k KIND (0 .. 3; 0)");
        numbers("r;ck", ";p", 0, 3, x -> Say.clock(x, 0, 5));
        Say.due("without", Say.clock(Say.house("r;c;p"), 0, 5), 0);
        Say.inTerms(1, "z the CLOCK that it FACES (0 .. 6; 6: none; 6)");
        // told by the sixth one, 5 is itself: numbers that are not in the way of that
        numbers("r;c;c;c;c;c;cz", ";p", 0, 4, x -> Say.clock(x, 5, 6), 5, 6);
        for (int v = 1; v <= 5; v++) Say.due("z" + v, Say.clock(Say.house("r;cz" + v + ";c;c;c;c;c;p"), 0, 6), v);
        Say.due("6: none", Say.clock(Say.house("r;cz6;c;c;c;c;c;p"), 0, 6), -1);
        Say.due("06: none", Say.clock(Say.house("r;cz06;p"), 0, 6), -1);
        Say.due("6 without", Say.clock(Say.house("r;c;c;p"), 0, 6), -1);
        Say.faultOf("r;cz7;p", 0, 4);
        Say.faultOf("r;cz07;p", 0, 5);
    }

    /** As above, but two numbers are told apart elsewhere. */
    private static void numbers(String ahead, String behind, int least, int most, Told told, int apart, int other) {
        for (int v = 0; v < 100; v++) {
            if (v == apart || v == other) continue;
            String t = ahead + v + behind;
            if (v < least || v > most) Say.faultOf(t, 0, ahead.length() + (v > 9 ? 1 : 0));
            else Say.due(t, told.of(Say.house(t)), v);
        }
    }

    private static void personItems() {
        Say.inTerms(1, "of p: e EYES (0 .. 9; 2)");
        numbers("r;c;pe", ";c", 0, 9, x -> x.person(0, 0));
        Say.due("without", Say.house("r;c;p").person(0, 0), 2);
        Say.inTerms(1, "b whether it is BLIND (0, 1; 0)");
        numbers("r;c;pb", ";c", 0, 1, x -> x.person(0, 1));
        Say.due("without", Say.house("r;c;p").person(0, 1), 0);
    }

    private static void ways() {
        Say.inTerms(1, "behind the ITEMS of p perhaps : and a WAY: 1 to 8 digits 0 .. 4 (5 .. 9 wrong at it), each a ROOM");
        String five = "r;r;r;r;r;c;p:";
        Say.faultOf(five, 0, five.length());
        Say.faultOf(five + ";c", 0, five.length());
        for (int n = 1; n <= 8; n++) {
            FedClocks x = Say.house(five + "01234014".substring(0, n));
            Say.due("a WAY of " + n, x.person(0, 4), n);
            for (int hour = 0; hour < n; hour++) {
                x.go(1);
                Say.due("HOUR " + hour + " of a WAY of " + n, x.person(0, 2), "01234014".charAt(hour) - '0');
            }
        }
        Say.due("no WAY", Say.house("r;c;pe1").person(0, 4), 0);
        Say.faultOf(five + "012340140", 0, five.length() + 8);
        Say.faultOf(five + "012340149", 0, five.length() + 8);
        for (int at = 0; at < 8; at++)
            for (char d = '0'; d <= '9'; d++) {
                String t = five + "00000000".substring(0, at) + d;
                Say.faultOf(t, 0, d <= '4' ? -1 : t.length() - 1);
            }
        // behind the ITEMS alone, of a PERSON alone, and once
        Say.faultOf("r;c;p:0e1", 0, 7);
        Say.faultOf("r;c;p:0:0", 0, 7);
        Say.faultOf("r:0;c;p", 0, 1);
        Say.faultOf("r;c:0;p", 0, 3);
        Say.faultOf("r;c;pe1b0:0", 0, -1);
        // each a ROOM: one that is told
        for (int rooms = 1; rooms <= 5; rooms++)
            for (int d = 0; d <= 4; d++) {
                for (int at = 0; at < 8; at++) {
                    String way = "00000000".substring(0, at) + d + "00000000".substring(at + 1);
                    String t = "r;".repeat(rooms) + "c;p:" + way;
                    Say.faultOf(t, 0, d < rooms ? -1 : t.length());
                    t = "r;".repeat(rooms) + "c;p;p:00;p:" + way + ";p:0";
                    Say.faultOf(t, 0, d < rooms ? -1 : t.length());
                }
                String t = "r;".repeat(rooms) + "c;p:" + d + ";p";
                Say.faultOf(t, 0, d < rooms ? -1 : t.length());
            }
    }

    private static void tastesAtMost() {
        Say.inTerms(1, "TASTES (4 at most) are TEXTS");
        FedClocks x = new FedClocks();
        for (int i = 0; i < 4; i++) {
            Say.put(x, "y:f");
            Say.due("text(1)", x.text(1), i);
            Say.due("TASTES", x.count(3), i + 1);
        }
        Say.put(x, "y:f");
        Say.due("a fifth", x.text(1), -1);
        Say.due("TASTES", x.count(3), 4);
    }

    private static void tasteClauses() {
        Say.inTerms(1, "CLAUSES with ; between, one at least: y, : , perhaps CONDITION ?, then SUM.");
        Say.faultOf("", 1, 0);
        Say.faultOf("y:f", 1, -1);
        Say.faultOf("y:f=1?f", 1, -1);
        Say.faultOf("y:f;", 1, 4);
        Say.faultOf(";y:f", 1, 0);
        Say.faultOf("y:f;;y:f", 1, 4);
        Say.faultOf("y:f y:f", 1, 4);
        Say.faultOf("y:?f", 1, 2);
        Say.faultOf("y:f=1f", 1, 5);
        // as many as the TAPE holds
        String sixty = "y:f;".repeat(59) + "y:ff".substring(0, 3);
        Say.faultOf(sixty, 1, -1);
        Say.faultOf(sixty + ";", 1, 240);
    }

    private static final String DIGITS = "0123456789";

    /** For each byte behind a text: whether such a TEXT can go on with it. */
    private static void mayFollow(String t, int sort, String signs) {
        for (char c = 1; c <= 255; c++) {
            int fault = Say.fault(t + c, sort);
            boolean goes = fault == -1 || fault == t.length() + 1;
            boolean may = signs.indexOf(c) >= 0 || c == ' ';
            Say.due("'" + t + "' and " + (int) c + " (fault " + fault + "): goes on", goes, may);
            if (!may) Say.due("fault of '" + t + "' and " + (int) c, fault, t.length());
        }
    }

    private static void tasteSigns() {
        Say.inTerms(1, "CONDITION: TRUTHS with | between; TRUTH: UNITS with & between; UNIT: ! UNIT, ( CONDITION ), or SUM, one of = < >, SUM. SUM: TERMS with + or - between; TERM: ATOMS with * or / between; ATOM: a number (1 to 4 digits), a letter (f h s k d p), [ SUM ].");
        String atoms = "fhskdp[" + DIGITS;
        mayFollow("", 1, "y");
        mayFollow("y", 1, ":");
        mayFollow("y:", 1, "!(" + atoms);
        mayFollow("y:f", 1, "+-*/=<>;");
        mayFollow("y:12", 1, "+-*/=<>;" + DIGITS);
        for (String sign : new String[] {"+", "-", "*", "/", "=", "<", ">"}) mayFollow("y:f" + sign, 1, atoms);
        mayFollow("y:f=1", 1, "+-*/&|?" + DIGITS);
        mayFollow("y:f=h", 1, "+-*/&|?");
        mayFollow("y:f=h?", 1, atoms);
        mayFollow("y:f=h?f", 1, "+-*/;");
        mayFollow("y:f=h&", 1, "!(" + atoms);
        mayFollow("y:f=h|", 1, "!(" + atoms);
        mayFollow("y:f=h&f", 1, "+-*/=<>");
        mayFollow("y:f;", 1, "y");
        mayFollow("y:!", 1, "!(" + atoms);
        mayFollow("y:(", 1, "!(" + atoms);
        mayFollow("y:[", 1, atoms);
        mayFollow("y:[f", 1, "+-*/]");
        mayFollow("y:[f]", 1, "+-*/=<>;");
        mayFollow("y:(f", 1, "+-*/=<>");
        mayFollow("y:(f=h", 1, "+-*/&|)");
        mayFollow("y:(f=h)", 1, "&|?");
        mayFollow("y:((f=h)", 1, "&|)");
        mayFollow("y:!f", 1, "+-*/=<>");
        mayFollow("y:!f=h", 1, "+-*/&|?");
        mayFollow("y:!(f=h)", 1, "&|?");
        mayFollow("y:f=[f", 1, "+-*/]");
        mayFollow("y:f=[f]", 1, "+-*/&|?");
        mayFollow("y:f=h?[f", 1, "+-*/]");
        mayFollow("y:f=h?[f]", 1, "+-*/;");
    }

    private static void tasteNumbers() {
        Say.inTerms(1, "a number (1 to 4 digits)");
        for (String n : new String[] {"0", "9", "00", "99", "000", "999", "0000", "9999"}) {
            Say.faultOf("y:" + n, 1, -1);
            Say.faultOf("y:[" + n + "]", 1, -1);
        }
        Say.faultOf("y:10000", 1, 6);
        Say.faultOf("y:00000", 1, 6);
        Say.faultOf("y:123456", 1, 6);
        Say.faultOf("y:f+12345", 1, 8);
        // what they are: FAT 10 is looked at by no more than that number
        for (int v : new int[] {0, 9, 10, 99, 100, 999, 1000, 9999}) {
            FedClocks x = Say.house("r;c;cf9k1;p", "y:" + v + "*k=" + (v / 1000) + "*1000+" + (v % 1000) + "&k=1?1");
            Say.due("it is " + v, x.looks(0), 1);
        }
    }

    private static void conditionsAhead() {
        Say.inTerms(1, "(A CLAUSE that goes on with ! or ( behind its : has a CONDITION.)");
        Say.faultOf("y:(f)", 1, 4);
        Say.faultOf("y:(f+h)*2", 1, 6);
        Say.faultOf("y:!f", 1, 4);
        Say.faultOf("y:!f;y:f", 1, 4);
        Say.faultOf("y:(f=1)", 1, 7);
        Say.faultOf("y:(f=1);y:f", 1, 7);
        Say.faultOf("y:(f=1)=1?f", 1, 7);
        Say.faultOf("y:(f=1)?f", 1, -1);
        Say.faultOf("y:!f=1?f", 1, -1);
        Say.faultOf("y:[f+h]*2", 1, -1);
        Say.faultOf("y:[f+h]*2=1?f", 1, -1);
    }

    private static void sixDeep() {
        Say.inTerms(1, "At most six of ( [ ! within one another.");
        String opens = "([!";
        // all rows of six of them: the seventh is wrong at it, whichever it is (a [ has a SUM in it alone)
        for (int row = 0; row < 729; row++) {
            String t = "y:";
            String shut = "";
            boolean sum = false;
            boolean fits = true;
            for (int i = 0, rest = row; i < 6; i++, rest /= 3) {
                char o = opens.charAt(rest % 3);
                fits &= !sum || o == '[';
                sum |= o == '[';
                t += o;
                if (o == '(') shut = ")" + shut;
                // the SUM in [ ] is one side of a UNIT
                if (o == '[') shut = (t.indexOf('[') == t.length() - 1 ? "]=f" : "]") + shut;
            }
            if (!fits) continue;
            boolean sumAlone = t.charAt(2) == '[';
            String inside = sum ? "f" : "f=f";
            Say.faultOf(t + inside + shut + (sumAlone ? "?f" : "?f"), 1, -1);
            for (char o : opens.toCharArray()) Say.faultOf(t + o, 1, 8);
            Say.faultOf(t + "[", 1, 8);
        }
        // not within one another they are as many as there may be
        Say.faultOf("y:[f]+[f]+[f]+[f]+[f]+[f]+[f]+[f]", 1, -1);
        Say.faultOf("y:!f=f&!f=f&!f=f&!f=f&!f=f&!f=f&!f=f?f", 1, -1);
        Say.faultOf("y:(f=f)&(f=f)&(f=f)&(f=f)&(f=f)&(f=f)&(f=f)?f", 1, -1);
        Say.faultOf("y:((((((f=f))))))&((((((f=f))))))?[[[[[[f]]]]]]", 1, -1);
        // a shut one counts no more, a ! ends with its UNIT
        Say.faultOf("y:(((((f=f)&(f=f)))))?f", 1, -1);
        Say.faultOf("y:(((((f=f&!f=f&!f=f&[f]=f)))))?f", 1, -1);
        Say.faultOf("y:(((((!f=f&![f", 1, 13);
        Say.faultOf("y:[[[[[[f]+[f]]]]]]", 1, -1);
        Say.faultOf("y:[[[[[[f+[f", 1, 10);
    }

    private static final String SPACED = "r ; r s 0 ; c r 1 h 2 f 33 m 44 t 5 k 1 z 1 ; c ; p e 3 b 0 : 0 1 0 ; p";

    private static void blanks() {
        Say.inTerms(1, "Blanks (32) may stand between all signs of both (between digits of a WAY, too), not within numbers.");
        FedClocks x = Say.house(SPACED);
        FedClocks y = Say.house(SPACED.replace(" ", ""));
        Say.due("the same HOUSE", Say.all(x).equals(Say.all(y)), true);
        x.go(3);
        y.go(3);
        Say.due("the same HOUSE", Say.all(x).equals(Say.all(y)), true);
        String wide = "  " + SPACED.replace(" ", "  ") + "   ";
        Say.faultOf(wide, 0, -1);
        Say.faultOf(" y : ! ( f = 1 | h < 2 ) & [ s + 10 ] > 9999 ? k * d / p - 3 ; y : 1 ", 1, -1);
        // nothing but 32 is one: each gap, each other sign that looks like one
        for (char c : new char[] {1, 9, 10, 11, 12, 13, 28, 31, 33, 95, 127, 133, 160, 255}) {
            for (int at = 0; at < SPACED.length(); at++)
                if (SPACED.charAt(at) == ' ') Say.faultOf(SPACED.substring(0, at) + c + SPACED.substring(at + 1), 0, at);
            Say.faultOf("y:f" + c, 1, 3);
            if (c != '!') Say.faultOf("y:" + c + "f", 1, 2);
            Say.faultOf(c + "y:f", 1, 0);
        }
        Say.faultOf("r;cf1 1;p", 0, 6);
        Say.faultOf("r;cf 11;p", 0, -1);
        Say.faultOf("r;cf0 1;p", 0, 4);
        Say.faultOf("y:1 1", 1, 4);
        Say.faultOf("y:123 4", 1, 6);
        Say.faultOf("y: 1234 ", 1, -1);
        Say.due("digits of a WAY", Say.house("r;r;c;p: 1 0  1").person(0, 4), 3);
    }

    private static void goesOn() {
        Say.inTerms(1, "FAULT: the first byte at which no such TEXT can go on");
        mayFollow("", 0, "rcp");
        mayFollow("r;c;p", 0, "eb:;");
        mayFollow("r;c;p;", 0, "rcp");
        mayFollow("c;p;r", 0, "s;");
        mayFollow("r;p;c", 0, "rhfmtkz;");
        mayFollow("rs", 0, "012345");
        mayFollow("rs0", 0, "012345;");
        mayFollow("r;cr", 0, "01234");
        mayFollow("r;ch", 0, DIGITS);
        for (char c : "fmt".toCharArray()) {
            mayFollow("r;c" + c, 0, "123456789");
            mayFollow("r;c" + c + "9", 0, DIGITS + ("rhfmtkz;".replace("" + c, "")));
            mayFollow("r;c" + c + "99", 0, "rhfmtkz;".replace("" + c, ""));
        }
        mayFollow("r;ck", 0, "0123");
        mayFollow("r;cz", 0, "0123456");
        mayFollow("r;cr0h0f1m1t1k0", 0, "z;0123");
        mayFollow("r;cr0h0f1m1t1k0z6", 0, ";");
        mayFollow("r;c;pe", 0, DIGITS);
        mayFollow("r;c;pe0", 0, DIGITS + "b:;");
        mayFollow("r;c;pb", 0, "01");
        mayFollow("r;c;pb0", 0, "01e:;");
        mayFollow("r;c;pb0e1", 0, ":;");
        mayFollow("r;c;p:", 0, "01234");
        mayFollow("r;c;p:0", 0, "01234;");
        mayFollow("r;c;p:00000000", 0, ";");
        mayFollow("r;r;r;r;r;", 0, "cp");
        mayFollow("c;c;c;c;c;c;", 0, "rp");
        mayFollow("p;p;p;p;p;p;", 0, "rc");
        mayFollow("r;r;r;r;r;c;c;c;c;c;c;p;p;p;p;p;p", 0, "eb:;");
        mayFollow("r;r;r;r;r;c;c;c;c;c;c;p;p;p;p;p;p;", 0, "");
        // the first one alone
        Say.faultOf("r;cf0;px", 0, 4);
        Say.faultOf("rx;cf0;px", 0, 1);
    }

    private static void endsTooEarly() {
        Say.inTerms(1, "(the length, if it ends too early, without a ROOM, a CLOCK, a PERSON,");
        String t = "r;rs1;cr1h2f33m44t55k3z1;c;pe7b1:01;p ;c";
        for (int n = 0; n < t.length(); n++) {
            String early = t.substring(0, n);
            boolean whole = n >= t.indexOf(";pe") + 2 && !early.endsWith(";") && !early.endsWith("e") && !early.endsWith("b") && !early.endsWith(":")
                && !early.endsWith("; ");
            Say.faultOf(early, 0, whole ? -1 : n);
            if (!early.endsWith("3") || whole) Say.faultOf(early + "  ", 0, whole ? -1 : n + 2);
        }
        String taste = "y:!(f=12|h<[3-k])&s>0?d*[p+9999];y:1";
        for (int n = 0; n <= taste.length(); n++) {
            String early = taste.substring(0, n);
            boolean whole = n == taste.length() || early.endsWith("?d") || early.endsWith("9999]");
            Say.faultOf(early, 1, whole ? -1 : n);
        }
        Say.faultOf("", 0, 0);
        Say.faultOf("   ", 0, 3);
        Say.faultOf("   ", 1, 3);
        Say.faultOf("r", 0, 1);
        Say.faultOf("c", 0, 1);
        Say.faultOf("p", 0, 1);
    }

    private static void notTold() {
        Say.inTerms(1, "or with a ROOM, a CLOCK that is not told, or a CLOCK that FACES itself)");
        for (int rooms = 1; rooms <= 5; rooms++)
            for (int room = 0; room <= 4; room++) {
                String r = "r;".repeat(rooms);
                String s = r.substring(0, r.length() - 1) + "s" + room + ";c;p";
                Say.faultOf(s, 0, room < rooms ? -1 : s.length());
                String c = r + "p;cr" + room + "  ";
                Say.faultOf(c, 0, room < rooms ? -1 : c.length());
            }
        for (int clocks = 1; clocks <= 6; clocks++)
            for (int one = 0; one < clocks; one++)
                for (int z = 0; z <= 6; z++) {
                    StringBuilder t = new StringBuilder("r;p");
                    for (int c = 0; c < clocks; c++) t.append(c == one ? ";cz" + z : ";c");
                    Say.faultOf(t.toString(), 0, z == 6 || z < clocks && z != one ? -1 : t.length());
                }
        // told behind it is told as well; what is wrong ahead of the end is ahead of it
        Say.faultOf("rs4;cr3z5;p:2;r;r;r;r;c;c;c;c;c", 0, -1);
        Say.faultOf("rs4;cr3z5;p:2;r;r;r;r;c;c;c;c;", 0, 30);
        Say.faultOf("rs4;cr3z5;p:2;x", 0, 14);
        Say.faultOf("cz0;r;p;r5", 0, 9);
    }

    private static void wrongNumbers() {
        Say.inTerms(1, "a number out of bounds is wrong at its last digit, a third digit (whatever stands ahead of it; a fifth one in a TASTE) itself");
        Say.faultOf("r;ch10;p", 0, 5);
        Say.faultOf("r;ck4;p", 0, 4);
        Say.faultOf("r;ck40;p", 0, 5);
        Say.faultOf("r;cf0;p", 0, 4);
        Say.faultOf("r;cf00;p", 0, 5);
        // a third one, whether two were within bounds or not
        for (String two : new String[] {"00", "01", "10", "99", "40"})
            for (char c : "rhfmtkz".toCharArray())
                for (char third : DIGITS.toCharArray()) Say.faultOf("r;c" + c + two + third + ";p", 0, 6);
        Say.faultOf("rs000;c;p", 0, 4);
        Say.faultOf("r;c;pe999", 0, 8);
        Say.faultOf("r;c;pb0000", 0, 8);
        Say.faultOf("y:00000", 1, 6);
        Say.faultOf("y:f=99999?1", 1, 8);
    }

    private static void wrongLetters() {
        Say.inTerms(1, "a letter that was there");
        for (char c : "rhfmtkz".toCharArray())
            for (char d : "rhfmtkz".toCharArray()) {
                int one = c == 'z' ? 6 : 1;
                int other = d == 'z' ? 6 : 1;
                Say.faultOf("r;r;c" + c + one + d + other + ";p", 0, c == d ? 7 : -1);
                if (c != d) Say.faultOf("r;r;c" + c + one + d + other + c + one + ";p", 0, 9);
            }
        Say.faultOf("rs0s0;c;p", 0, 3);
        Say.faultOf("r;c;pe1e1", 0, 7);
        Say.faultOf("r;c;pb1b1", 0, 7);
        Say.faultOf("r;c;pb1e1b1", 0, 9);
        // in another CLAUSE it was not there
        Say.faultOf("rs0;rs0;ch1;ch1;pe1;pe1", 0, -1);
    }

    private static void tooMany() {
        Say.inTerms(1, "a sixth r, a seventh c or p, a ninth digit of a WAY, a seventh of ( [ ! in a TASTE at it.");
        Say.faultOf("r;r;r;r;r; r;c;p", 0, 11);
        Say.faultOf("c;p;r;r;r;r;r;rs0", 0, 14);
        Say.faultOf("c;c;c;c;c;c; cf1;r;p", 0, 13);
        Say.faultOf("p;p;p;p;p;p;  p:0;r;c", 0, 14);
        Say.faultOf("r;c;p:0000 0000 0", 0, 16);
        Say.faultOf("y:[[[[[[ [f", 1, 9);
        Say.faultOf("y:!!!!!! !f=f?f", 1, 9);
        Say.faultOf("y:(((((( (f=f", 1, 9);
    }

    private static void feed() {
        Say.inPromise(2, "Twenty bytes more come to the TAPE (of each number the highest first; bytes of 0 are left out): how many it has.");
        // y:f>5?h told by one sign a number, at each of its four places
        for (int shift = 0; shift <= 24; shift += 8) {
            FedClocks x = new FedClocks();
            Say.due("five more", x.feed('y' << shift, ':' << shift, 'f' << shift, '>' << shift, '5' << shift), 5);
            Say.due("two more", x.feed(0, '?' << shift, 0, 'h' << shift, 0), 7);
            Say.due("it is that TASTE", x.fault(1), -1);
        }
        FedClocks x = new FedClocks();
        Say.due("twenty more", x.feed(0x793a663b, 0x793a683b, 0x793a733b, 0x793a6b3b, 0x793a643b), 20);
        Say.due("as they come", x.fault(1), 20);
        Say.due("three more", x.feed(0x793a70, 0, 0, 0, 0), 23);
        Say.due("as they come", x.fault(1), -1);
        Say.due("nothing more", x.feed(0, 0, 0, 0, 0), 23);
        Say.due("0x80 is a byte", x.feed(0x80000000, 0x800000, 0x8000, 0x80, 0), 27);
        Say.due("255 is a byte", x.feed(-1, 0, 0, 0, 0), 31);
        Say.due("each byte above 127 counts once", x.fault(1), 23);
        x.end(0);
        x.feed(0x00723b00, 0x0000633b, 0x70000000, 0, 0x003b7000);
        Say.due("bytes of 0 left out", x.count(4), 7);
        Say.due("r;c;p;p", x.fault(0), -1);
        Say.inPromise(2, "NONE: more than 240.");
        // one byte, whatever it is and wherever it stands
        for (int v = 1; v <= 255; v++) {
            x = new FedClocks();
            Say.add(x, "x".repeat(240));
            for (int shift = 0; shift <= 24; shift += 8) {
                x.end(239);
                Say.due(v + " << " + shift + " at 239", x.feed(0, v << shift, 0, 0, 0), 240);
                Say.due(v + " << " + shift + " at 240", x.feed(v << shift, 0, 0, 0, 0), -1);
                Say.due("nothing at 240", x.feed(0, 0, 0, 0, 0), 240);
            }
        }
        for (int free = 0; free <= 21; free++)
            for (int more = 0; more <= 20; more++) {
                x = new FedClocks();
                Say.add(x, "x".repeat(240 - free));
                int[] w = Say.words("x".repeat(more));
                Say.due(more + " more at " + (240 - free), x.feed(w[0], w[1], w[2], w[3], w[4]), more <= free ? 240 - free + more : -1);
                Say.due("bytes", x.count(4), more <= free ? 240 - free + more : 240 - free);
            }
    }

    private static void end() {
        Say.inPromise(3, "The TAPE has its first n bytes alone.");
        FedClocks x = new FedClocks();
        Say.put(x, "r;c;p;x");
        Say.due("all of them", x.end(7), true);
        Say.due("bytes", x.count(4), 7);
        Say.due("fault", x.fault(0), 6);
        Say.due("five of them", x.end(5), true);
        Say.due("bytes", x.count(4), 5);
        Say.due("fault", x.fault(0), -1);
        Say.due("more come behind those", Say.add(x, "e1"), 7);
        Say.due("fault", x.fault(0), -1);
        Say.due("none of them", x.end(0), true);
        Say.due("bytes", x.count(4), 0);
        Say.inPromise(3, "False: n.");
        Say.due("end(1) of none", x.end(1), false);
        Say.due("end(-1) of none", x.end(-1), false);
        Say.due("end(0) of none", x.end(0), true);
        Say.put(x, "r;c;p");
        for (int n : Say.FAR) Say.due("end(" + n + ")", x.end(n), false);
        Say.due("end(-1)", x.end(-1), false);
        Say.due("end(6)", x.end(6), false);
        Say.due("bytes still", x.count(4), 5);
        Say.add(x, "x".repeat(235));
        Say.due("end(241)", x.end(241), false);
        Say.due("end(240)", x.end(240), true);
    }

    private static void fault() {
        FedClocks x = new FedClocks();
        Say.inPromise(4, "The FAULT of the TAPE as a HOUSE (0), a TASTE (1).");
        Say.put(x, "y:ff");
        Say.due("fault(0)", x.fault(0), 0);
        Say.due("fault(1)", x.fault(1), 3);
        Say.inPromise(4, "NONE: none.");
        Say.put(x, "y:f");
        Say.due("fault(1)", x.fault(1), -1);
        Say.put(x, "r;c;p");
        Say.due("fault(0)", x.fault(0), -1);
        Say.due("fault(0) again", x.fault(0), -1);
        Say.due("bytes still", x.count(4), 5);
        Say.inPromise(4, "-2: no such sort.");
        for (int sort : new int[] {-1, 2, 3, -2}) Say.due("fault(" + sort + ")", x.fault(sort), -2);
        for (int sort : Say.FAR) Say.due("fault(" + sort + ")", x.fault(sort), -2);
    }

    private static void text() {
        Say.inPromise(5, "The TAPE (empty then) is the HOUSE (HOUR 0; all that was of another one is gone but TASTES, which holds, CROWD): how many CLOCKS; a TASTE: its number.");
        FedClocks x = new FedClocks();
        Say.put(x, "rs1;r;r;c;c;c;p;p:01");
        Say.due("text(0)", x.text(0), 3);
        Say.due("the TAPE", x.count(4), 0);
        Say.due("fault(0)", x.fault(0), 0);
        for (int i = 0; i < 3; i++) {
            Say.put(x, "y:f");
            Say.due("text(1)", x.text(1), i);
            Say.due("the TAPE", x.count(4), 0);
        }
        x.taste(1);
        x.crowd(50);
        x.hear(1, 0);
        x.send(0, 2);
        x.blind(1, true);
        x.paint(0, true);
        x.face(0, 1);
        x.crowds(9, 3);
        x.image();
        x.go(60);
        Say.put(x, "rs1;r;c;p;p:10");
        Say.due("text(0)", x.text(0), 1);
        FedClocks y = Say.house("rs1;r;c;p;p:10", "y:f", "y:f", "y:f");
        y.taste(1);
        y.crowd(50);
        Say.due("all is as of a new one", Say.all(x).equals(Say.all(y)), true);
        int[] want = {2, 1, 2, 3, 0, 1, 0, 50, 1, 0, 0, 0, 0, 0};
        for (int what = 0; what < want.length; what++) Say.due("count(" + what + ")", x.count(what), want[what]);
        Say.due("the IMAGE is gone", x.back(), -1);
        Say.due("ACTS are gone", x.undo(), -1);
        x.crowds(9, 3);
        y.crowds(9, 3);
        Say.due("all goes as of a new one", Say.all(x).equals(Say.all(y)), true);
        Say.inPromise(5, "NONE: a FAULT, no such sort, there are four.");
        Say.put(x, "r;c;p;");
        Say.due("a FAULT at the end", x.text(0), -1);
        Say.put(x, "xr;c;p");
        Say.due("a FAULT at 0", x.text(0), -1);
        Say.due("a HOUSE is no TASTE", x.text(1), -1);
        Say.put(x, "y:f");
        Say.due("a TASTE is no HOUSE", x.text(0), -1);
        for (int sort : new int[] {-1, 2, -2, 3}) Say.due("text(" + sort + ")", x.text(sort), -1);
        for (int sort : Say.FAR) Say.due("text(" + sort + ")", x.text(sort), -1);
        Say.due("the TAPE still", x.count(4), 3);
        Say.due("the fourth", x.text(1), 3);
        Say.put(x, "y:f");
        Say.due("there are four", x.text(1), -1);
        Say.due("the TAPE still", x.count(4), 3);
        Say.due("without a FAULT", x.fault(1), -1);
        Say.put(x, "r;c;p");
        Say.due("a HOUSE though there are four", x.text(0), 1);
    }

    private static void sees() {
        Say.inPromise(8, "The ROOM that one SEES from a ROOM, too.");
        FedClocks x = Say.house("rs4;rs1;rs0;rs5;r;c;p");
        Say.due("sees(0)", x.sees(0), 4);
        Say.due("sees(1): itself", x.sees(1), 1);
        Say.due("sees(2)", x.sees(2), 0);
        Say.inPromise(8, "NONE: none, no such one.");
        Say.due("sees(3): none", x.sees(3), -1);
        Say.due("sees(4): none", x.sees(4), -1);
        for (int room : new int[] {-1, 5, 6, -5}) Say.due("sees(" + room + ")", x.sees(room), -1);
        for (int room : Say.FAR) Say.due("sees(" + room + ")", x.sees(room), -1);
        Say.tell(x, "rs1;rs0;c;p");
        Say.due("sees(2): of another HOUSE", x.sees(2), -1);
        Say.due("sees(0) without", new FedClocks().sees(0), -1);
    }

    private static void taste() {
        Say.inPromise(9, "The TASTE that holds (NONE: none).");
        FedClocks x = Say.house("r;cf9;cf5;cf7k1;cf8h2;p");
        for (String t : new String[] {"y:f", "y:0-f", "y:k", "y:h"}) {
            Say.put(x, t);
            x.text(1);
        }
        Say.due("none holds", x.count(5), -1);
        int[] looks = {0, 1, 2, 3};
        for (int i = 0; i < 4; i++) {
            Say.due("taste(" + i + ")", x.taste(i), true);
            Say.due("it holds", x.count(5), i);
            Say.due("looks(0)", x.looks(0), looks[i]);
            Say.due("taste(" + i + ") again", x.taste(i), true);
        }
        Say.due("taste(-1)", x.taste(-1), true);
        Say.due("none holds", x.count(5), -1);
        Say.due("looks(0)", x.looks(0), 1);
        Say.due("taste(-1) again", x.taste(-1), true);
        Say.inPromise(9, "False: no such one.");
        Say.due("taste(4)", x.taste(4), false);
        Say.due("taste(-2)", x.taste(-2), false);
        for (int t : Say.FAR) Say.due("taste(" + t + ")", x.taste(t), false);
        FedClocks y = new FedClocks();
        Say.due("taste(-1) of a new one", y.taste(-1), true);
        for (int n = 0; n < 4; n++) {
            Say.due("taste(" + n + ") of " + n, y.taste(n), false);
            Say.put(y, "y:f");
            y.text(1);
            Say.due("taste(" + n + ") of " + (n + 1), y.taste(n), true);
        }
    }
}
