import java.math.BigInteger;

/** The sentences about HOURS, CROWDS, ACTS and what is so: each bound of each, inside and outside. */
public final class HourBoundsTest {
    public static void main(String[] args) {
        newObject();
        atFirst();
        walks();
        looks();
        facing();
        greatest();
        letters();
        worth();
        numbersBehindSigns();
        cutDivision();
        eats();
        starves();
        strikes();
        lost();
        goesWild();
        isBorn();
        tenClocks();
        kinds();
        bornFacesNobody();
        bornIsOther();
        crowdsDraw();
        seeds();
        drawing();
        putBy();
        byHand();
        acts();
        clock();
        person();
        crowd();
        go();
        crowds();
        send();
        blind();
        hang();
        face();
        wind();
        paint();
        undo();
        log();
        Say.end();
    }

    private static int clock(FedClocks x, int c, int what) {
        return Say.clock(x, c, what);
    }

    private static void newObject() {
        Say.inPromise(1, "No HOUSE.");
        FedClocks x = new FedClocks();
        for (int what = 0; what <= 13; what++) Say.due("count(" + what + ")", x.count(what), what == 5 ? -1 : 0);
        Say.due("the TAPE is empty", x.fault(0), 0);
        Say.due("go(1)", x.go(1), -1);
        Say.due("ring(0)", x.ring(0), -1);
        Say.due("deaths(0)", x.deaths(0), -1);
        Say.due("seen(0, 0)", x.seen(0, 0), -1);
        Say.due("log(0, 0)", x.log(0, 0), -1);
    }

    private static void atFirst() {
        Say.inTerms(2, "A PERSON is in ROOM 0 at first, a CLOCK lives and has eaten nothing.");
        FedClocks x = Say.house("r;r;r;cr2;c;p:2;pb1:1;p");
        for (int p = 0; p < 3; p++) Say.due("person(" + p + ", 2)", x.person(p, 2), 0);
        for (int c = 0; c < 2; c++) {
            Say.due("lives", clock(x, c, 7), 1);
            for (int what : new int[] {8, 9, 10, 11, 12}) Say.due("clock(" + c + ", " + what + ")", clock(x, c, what), 0);
        }
        Say.due("all live", x.count(8), 2);
        Say.due("nothing was eaten", x.count(12) + x.count(13), 0);
    }

    private static void walks() {
        Say.inTerms(2, "An HOUR: (1) each PERSON that is SENT is where it is sent; else, with a WAY, it goes to the ROOM of its digit (HOUR, from 0, modulo as many as there are).");
        String way = "41302134";
        for (int n = 1; n <= 8; n++) {
            FedClocks x = Say.house("r;r;r;r;r;ch0;pb1:" + way.substring(0, n) + ";p");
            for (int hour = 0; hour < 3 * n + 1; hour++) {
                x.go(1);
                Say.due("HOUR " + hour + " of a WAY of " + n, x.person(0, 2), way.charAt(hour % n) - '0');
                Say.due("without a WAY it stays", x.person(1, 2), 0);
            }
            // far on, and SENT in between: its digit goes by the HOUR all the same
            while (x.count(6) < 150) x.go(1);
            x.send(0, 2);
            x.send(1, 3);
            Say.due("not there yet", x.person(1, 2), 0);
            x.go(1);
            Say.due("SENT", x.person(0, 2), 2);
            Say.due("SENT", x.person(1, 2), 3);
            x.go(2);
            Say.due("still SENT", x.person(0, 2), 2);
            x.send(0, -1);
            x.send(1, -1);
            Say.due("not gone yet", x.person(0, 2), 2);
            x.go(1);
            Say.due("HOUR 153", x.person(0, 2), way.charAt(153 % n) - '0');
            Say.due("it stays there", x.person(1, 2), 3);
            x.send(0, 0);
            x.go(1);
            Say.due("SENT to ROOM 0", x.person(0, 2), 0);
        }
    }

    private static void looks() {
        Say.inTerms(2, "(2) Each PERSON that is not BLIND looks, by numbers, at one living CLOCK in its ROOM or the one that it SEES from there (none: at nothing)");
        FedClocks x = Say.house("rs1;r;rs2;r;cf9h0;cf8h0r1;cf7h0r2;p;p;pb1");
        int[] looks = {1, 1, 2, -1};
        for (int room = 0; room < 4; room++) {
            x.send(0, room);
            Say.due("from ROOM " + room, x.looks(0), looks[room]);
            Say.due("the BLIND one", x.looks(2), -1);
        }
        x.hang(1, 3);
        x.send(0, 0);
        Say.due("in its own", x.looks(0), 0);
        x.hang(0, 1);
        Say.due("in the other", x.looks(0), 0);
        x.send(0, 1);
        Say.due("one SEES one way alone", x.looks(0), 0);
        x.hang(0, 0);
        Say.due("not the other way", x.looks(0), -1);
        x.go(1);
        Say.due("eaten by 1's alone", x.count(12), 2);
        // one that lives no more is not looked at
        x = Say.house("r;cf1;cf50;pb1;p");
        Say.due("the thinner", x.looks(1), 0);
        x.blind(1, true);
        x.go(1);
        x.blind(1, false);
        Say.due("the living one", x.looks(1), 1);
        x = Say.house("r;cf1;p");
        x.blind(0, true);
        x.go(1);
        x.blind(0, false);
        Say.due("none lives: at nothing", x.looks(0), -1);
        x.go(1);
        Say.due("nothing is eaten", x.log(0, 0), 0);
    }

    private static void facing() {
        Say.inTerms(2, ", but not at one that FACES a living one by which it is FACED");
        FedClocks x = Say.house("r;r;cf9h0z1;cf8h0;cf7h0;cr1h0;pe0");
        Say.due("one FACES alone", x.looks(0), 2);
        x.face(2, 1);
        x.face(1, 0);
        // 0 and 1 face one another; 2 FACES 1, by which it is not FACED
        Say.due("2 is not FACED", x.looks(0), 2);
        x.hang(2, 1);
        Say.due("the two others", x.looks(0), -1);
        x.face(0, 3);
        Say.due("neither any more", x.looks(0), 1);
        x.face(3, 0);
        Say.due("0 and 3, though in another ROOM", x.looks(0), 1);
        x.face(1, 3);
        x.face(3, 1);
        Say.due("now 1 and 3", x.looks(0), 0);
        // living ones: the one that FACES it has died
        x = Say.house("r;cf1z1;cf50z0m99;pe3");
        x.go(1);
        Say.due("nothing was eaten", x.count(12), 0);
        Say.due("0 died", clock(x, 0, 7), 0);
        Say.due("1 is FACED by one that lives no more", x.looks(0), 1);
        x.go(1);
        Say.due("it eats", x.count(12), 3);
    }

    private static void greatest() {
        Say.inTerms(2, ": that with the greatest TASTE (of several the lowest): WORTH by the TASTE that holds (none at first: 100 less FAT), and 10 times its LURE");
        FedClocks x = Say.house("r;cf12h0;cf11h0;cf10h0;cf10h0;cf11h0;cf10h0;pe0");
        Say.due("the lowest of the thinnest", x.looks(0), 2);
        x.wind(2, 1);
        Say.due("the next", x.looks(0), 3);
        x.wind(3, 1);
        Say.due("the last", x.looks(0), 5);
        x.wind(5, 1);
        Say.due("the lowest of all", x.looks(0), 1);
        Say.like(x, "y:0-7");
        Say.due("all alike, below 0", x.looks(0), 0);
        Say.like(x, "y:f=11?0-1000*1000;y:f=12?0-999*1001");
        // 999 * 1001 is 999,999
        Say.due("the greater of two far below 0", x.looks(0), 0);
        Say.like(x, "y:f*f");
        Say.due("the fattest", x.looks(0), 0);
        x.taste(-1);
        Say.due("none again", x.looks(0), 1);
        // 10 times LURE: the one (FAT 40 and as much more) is looked at if its LURE is high enough
        int[] wants = {4, 4, 8, 8};
        int[] fats = {49, 50, 51, 60};
        for (int i = 0; i < 4; i++) {
            x = Say.house("r;cf" + fats[i] + "m99h0;cf40m99h0;pe1");
            Say.due("RESTS for FAT " + fats[i], x.lures(0, 1, 1, 0, -1), wants[i]);
            Say.due("the first", x.lures(0, 1, 1, 0, 0), wants[i] == 4 ? 3 : 2);
        }
        // FAT 61: 39 and 30 is below 60 and 10, so the other has it from LURE 1 on
        x = Say.house("r;cf61m99h0;cf40m99h0;pe1");
        Say.due("RESTS for FAT 61", x.lures(0, 1, 1, 0, -1), 12);
        Say.due("the first", x.lures(0, 1, 1, 0, 0), 1);
        // with a TASTE as well, above its bound
        x = Say.house("r;ch0;ch0m99;pe1", "y:1000*1000");
        Say.due("LURE above the bound of numbers", x.lures(1, 0, 1, 0, -1), 4);
        Say.due("the first of them: the lower one has it by LURE 3", x.lures(1, 0, 1, 0, 0), 3);
    }

    private static void letters() {
        Say.inTerms(2, "; letters: f FAT as the HOUR began, h HUNGER, s HOURS since it struck (since it was there, if it never did), k KIND, d whether it is in the other ROOM (1, 0), p the PERSON.");
        // f: what one PERSON feeds does not count for the next one
        FedClocks x = Say.house("r;cf10h0;cf11h0;pe9;pe9;pe9", "y:50-f");
        x.go(1);
        Say.due("f", clock(x, 0, 2), 37);
        Say.due("f", clock(x, 1, 2), 11);
        // f, h, k are the numbers that they are, in the first place and in the second
        String[][] is = {{"f", "30", "29", "31"}, {"h", "7", "6", "8"}, {"k", "3", "2", "4"}};
        for (String[] one : is)
            for (int i = 1; i <= 3; i++) {
                FedClocks y = Say.house("r;cf30h7k3;cf4h0k0;p", "y:" + one[0] + "=" + one[i] + "?9;y:5");
                Say.due(one[0] + " is " + one[i], y.looks(0), 0);
                y = Say.house("r;cf4h0k0;cf30h7k3;p", "y:" + one[0] + "=" + one[i] + "?9;y:5");
                Say.due(one[0] + " is " + one[i], y.looks(0), i == 1 ? 1 : 0);
            }
        // d: 0 in the ROOM, 1 in the other one, 0 in the ROOM that SEES itself
        x = Say.house("rs1;rs0;rs2;c;cr1;cr2;p", "y:d=1?9;y:d=0?5");
        Say.due("from 0", x.looks(0), 1);
        x.send(0, 1);
        Say.due("from 1", x.looks(0), 0);
        x.send(0, 2);
        Say.due("from 2", x.looks(0), 2);
        // d of each PERSON where it is, in one HOUR
        x = Say.house("rs1;rs0;ch0;cr1h0;pe1:0;pe2:1;pe4:0;pe8:1", "y:d");
        x.go(1);
        Say.due("from ROOM 1", clock(x, 0, 2), 20);
        Say.due("from ROOM 0", clock(x, 1, 2), 15);
        // p: each PERSON's own number
        x = Say.house("r;ck1;ck2;p;p;p;p;p;p");
        for (int p = 0; p < 6; p++) {
            if (x.count(3) == 4) x = Say.house("r;ck1;ck2;p;p;p;p;p;p");
            Say.like(x, "y:p=" + p + "&k=2?9;y:3");
            for (int q = 0; q < 6; q++) Say.due("p is " + p + " for " + q, x.looks(q), p == q ? 1 : 0);
        }
        // in one HOUR each of them by its own number
        x = Say.house("r;ck1h0;ck2h0;pe1;pe3;pe5", "y:p=1&k=2?9;y:3");
        x.go(1);
        Say.due("looked at by 0 and 2", clock(x, 0, 2), 16);
        Say.due("looked at by 1", clock(x, 1, 2), 13);
        // from two ROOMS they SEE the same one: what it is worth to the first counts for the first alone
        x = Say.house("r;rs0;rs0;ch0f50m99;cr2h0f50m99;pe1:1;pe2:2", "y:p");
        x.go(1);
        Say.due("both are alike to each", clock(x, 0, 2) * 100 + clock(x, 1, 2), 5350);
        // s: from 0 on, 0 again as it strikes; the other one never does
        int[] since = {0, 1, 0, 1, 0, 1};
        for (int hour = 0; hour < 6; hour++)
            for (int s = 0; s <= 6; s++) {
                FedClocks y = Say.house("r;ct99f60m60h0;ct4f20;pe2");
                if (hour > 0) y.go(hour);
                Say.due("HOURS since it struck", clock(y, 1, 12), since[hour]);
                Say.due("HOURS since it was there", clock(y, 0, 12), hour);
                Say.like(y, "y:s=" + s + "&f<60?1");
                Say.due("s is " + s + " in HOUR " + hour, y.looks(0), s == since[hour] ? 1 : 0);
                Say.like(y, "y:s=" + s + "&f=60?0;y:1");
                Say.due("s of the other is " + s + " in HOUR " + hour, y.looks(0), s == hour ? 1 : 0);
            }
        x = Say.house("r;cf50m20h0;pe0", "y:s<1?1;y:0");
        x.go(2);
        // those of HOUR 1 are 1 HOUR there as HOUR 2 begins, the third and fourth are new
        Say.due("s of the first", clock(x, 0, 12), 2);
        Say.due("s of the first one born", clock(x, 1, 12), 1);
        Say.due("FAT 25 is above MOST 20", x.count(1), 4);
        Say.due("s of one born now", clock(x, 2, 12), 0);
        Say.due("looks at the newest", x.looks(0), 2);
    }

    /** Which of two is looked at: the second, if a SUM is equal to another one for it. */
    private static void equal(String one, String other) {
        FedClocks x = Say.house("r;ck1f7;ck2f7h3;p", "y:k=2&" + one + "=" + other + "?1;y:0");
        Say.due(one + " = " + other, x.looks(0), 1);
    }

    private static void worth() {
        Say.inTerms(1, "WORTH of a TASTE: the SUM of the first CLAUSE whose CONDITION holds (or has none), 0 without.");
        String house = "r;ck1f7;ck2f7h3;p";
        String[][] tastes = {
            {"y:k=1?5;y:k=2?6;y:k=2?0", "1"}, {"y:k=2?5;y:6", "0"}, {"y:5;y:k=2?6", "0"}, {"y:k=1?0-1", "1"}, {"y:k=1?1", "0"},
            {"y:k=2?0-1", "0"}, {"y:k=3?9", "0"}, {"y:k>2?9;y:k>1?8;y:k>0?7", "1"}, {"y:k<2?1;y:k<3?2;y:k<4?0", "1"},
            {"y:!k=1?1", "1"}, {"y:!!k=1?1", "0"}, {"y:!!!k=1?1", "1"}, {"y:k=1|k=2?k", "1"}, {"y:k=1&k=2?9;y:0-k", "0"},
            {"y:k=9|k=2&f=7?1", "1"}, {"y:k=2|k=9&f=9?1", "1"}, {"y:(k=2|k=9)&f=9?1", "0"}, {"y:k=2|k=2?1", "1"}, {"y:k=2&!f=9?1", "1"},
            {"y:k-1>0?1", "1"}, {"y:k<f?k", "1"}, {"y:f<k?k", "0"}, {"y:f>k?k", "1"}, {"y:k>1&k=2?1", "1"}, {"y:!k>1?1", "0"}, {"y:k=2&f>k?1", "1"}, {"y:!k<2?1", "1"}, {"y:k<3&k>1?1", "1"}, {"y:k=k?k", "1"}, {"y:k>k?9;y:k<k?8;y:0-k", "0"}};
        for (String[] t : tastes) Say.due("looks by " + t[0], Say.house(house, t[0]).looks(0), Integer.parseInt(t[1]));
        Say.inTerms(1, "Behind each sign numbers are within");
        equal("2+3*4", "14");
        equal("2*3+4", "10");
        equal("9-3-2", "4");
        equal("9-3+2", "8");
        equal("16/4/2", "2");
        equal("16/4*2", "8");
        equal("16*2/4", "8");
        equal("[2+3]*4", "20");
        equal("2*[3+4]", "14");
        equal("9-[3-2]", "8");
        equal("16/[4/2]", "8");
        equal("h*f-k", "19");
    }

    private static void numbersBehindSigns() {
        Say.inTerms(1, "-1,000,000 .. 1,000,000");
        String most = "1000*1000";
        String least = "[0-1000*1000]";
        equal(most + "/1000", "1000");
        equal(most + "-1", "999*1001");
        equal("999*1001+1", most);
        equal("999*1001+2", most);
        equal(most + "+1", most);
        equal(most + "+9999", most);
        equal(most + "+" + most, most);
        equal("1001*1000", most);
        equal("9999*9999", most);
        equal("[" + most + "]*[" + most + "]", most);
        equal(least + "*[" + most + "]", least);
        equal(least + "*" + least, most);
        equal(least + "/1000", "0-1000");
        equal(least + "-1", least);
        equal(least + "-" + most, least);
        equal(least + "+1", "0-999*1001");
        equal("[0-1001]*1000", least);
        equal("[0-9999]*9999", least);
        equal("[" + most + "]-" + least, most);
        // behind each sign, not at the end alone
        equal("9999*9999/9999", "100");
        equal("9999*9999-9999", "99*9999+100");
        equal("1000*1000+5-5", "999*1001-4");
        equal("0-9999*9999+7", "0-999*1001+6");
        FedClocks x = Say.house("r;ck1;ck2;p", "y:k=1?999*1001;y:9999*9999");
        Say.due("1,000,000 is above 999,999", x.looks(0), 1);
        x = Say.house("r;ck1;ck2;p", "y:k=1?1000*1000;y:9999*9999");
        Say.due("1,000,000 is no more than that", x.looks(0), 0);
        x = Say.house("r;ck1;ck2;p", "y:k=1?0-9999*9999;y:0-1000*1000");
        Say.due("nor is it less below 0", x.looks(0), 0);
    }

    private static void cutDivision() {
        Say.inTerms(1, "; / cuts towards 0, by 0 gives 0.");
        equal("7/2", "3");
        equal("[0-7]/2", "0-3");
        equal("7/[0-2]", "0-3");
        equal("[0-7]/[0-2]", "3");
        equal("1/2", "0");
        equal("[0-1]/2", "0");
        equal("0/5", "0");
        equal("6/3", "2");
        equal("[0-6]/3", "0-2");
        equal("7/0", "0");
        equal("0/0", "0");
        equal("[0-7]/0", "0");
        equal("7/[f-f]", "0");
        equal("7/0+1", "1");
        equal("1000*1000/0*3", "0");
    }

    private static void eats() {
        Say.inTerms(2, "It eats EYES of that PERSON.");
        for (int e = 0; e <= 9; e++) {
            FedClocks x = Say.house("r;ch0t99;pe" + e);
            x.go(1);
            Say.due("FAT by EYES " + e, clock(x, 0, 2), 10 + e);
            Say.due("EATEN", clock(x, 0, 8), e);
        }
        FedClocks x = Say.house("r;ch0t99m99;pe9;pe9;pe9;pe9;pe9;pe9");
        x.go(1);
        Say.due("of all six", clock(x, 0, 2), 64);
        Say.due("eaten", x.log(0, 0), 54);
    }

    private static void starves() {
        Say.inTerms(2, "(3) Each CLOCK that lives: FAT is what it ate more, HUNGER less; if it is 0 or less, it STARVES (FAT 0, it lives no more)");
        // FAT, EYES, HUNGER: 0 and less it starves, 1 it does not
        int[][] sets = {{1, 0, 1}, {1, 0, 2}, {1, 0, 9}, {2, 0, 1}, {9, 0, 9}, {9, 0, 8}, {1, 8, 9}, {1, 9, 9}, {5, 3, 8}, {5, 3, 7}, {1, 0, 0}, {99, 0, 9}};
        for (int[] s : sets) {
            FedClocks x = Say.house("r;cf" + s[0] + "h" + s[2] + "m99t1;pe" + s[1]);
            x.go(1);
            int fat = s[0] + s[1] - s[2];
            Say.due("lives", clock(x, 0, 7), fat > 0 ? 1 : 0);
            Say.due("FAT", clock(x, 0, 2), fat > 0 ? fat : 0);
            Say.due("how many live", x.count(8), fat > 0 ? 1 : 0);
            Say.due("STARVED", x.log(0, 2), fat > 0 ? 0 : 1);
            Say.due("it strikes only if it lives", clock(x, 0, 9), fat > 0 ? s[1] : 0);
            Say.due("strikes", x.log(0, 1), fat > 0 ? s[1] : 0);
            Say.due("CLOCKS", x.count(1), 1);
            x.go(3);
            if (fat <= 0) {
                Say.due("FAT stays 0", clock(x, 0, 2), 0);
                Say.due("it starves once", x.log(0, 2), 0);
                Say.due("its HOURS", x.shows(0), 60);
            }
        }
    }

    private static void strikes() {
        Say.inTerms(2, "; else what it ate comes to what it has EATEN since it struck: as long as that is STRIKE or more, it strikes once, and that is STRIKE less.");
        for (int strike = 1; strike <= 20; strike++) {
            FedClocks x = Say.house("r;ch9f50m99t" + strike + ";pe9");
            int eaten = 0;
            int struck = 0;
            for (int hour = 1; hour <= 5; hour++) {
                x.go(1);
                eaten += 9;
                int times = 0;
                for (; eaten >= strike; eaten -= strike) times++;
                struck += times;
                Say.due("EATEN at STRIKE " + strike, clock(x, 0, 8), eaten);
                Say.due("how often it struck", clock(x, 0, 9), struck);
                Say.due("strikes of the HOUR", x.log(0, 1), times);
                Say.due("all strikes", x.count(13), struck);
                Say.due("HOURS since", times > 0 ? 0 : 1, Math.min(1, clock(x, 0, 12)));
            }
        }
        // as many as that, one less, twice
        FedClocks x = Say.house("r;ct7m99;pe7");
        x.go(1);
        Say.due("7 at STRIKE 7", clock(x, 0, 9) * 10 + clock(x, 0, 8), 10);
        x = Say.house("r;ct7m99;pe6");
        x.go(1);
        Say.due("6 at STRIKE 7", clock(x, 0, 9) * 10 + clock(x, 0, 8), 6);
        x = Say.house("r;ct7m99;pe7;pe7");
        x.go(1);
        Say.due("14 at STRIKE 7", clock(x, 0, 9) * 10 + clock(x, 0, 8), 20);
        x = Say.house("r;ct1m99;pe9;pe9;pe9;pe9;pe9;pe9");
        x.go(1);
        Say.due("54 at STRIKE 1", clock(x, 0, 9), 54);
        x = Say.house("r;ct99m99h9;pe9");
        x.go(10);
        Say.due("90 at STRIKE 99", clock(x, 0, 8), 90);
        x.go(1);
        Say.due("99 at STRIKE 99", clock(x, 0, 9) * 10 + clock(x, 0, 8), 10);
        // of several CLOCKS
        x = Say.house("r;r;ct1h0m99;cr1t2h0m99;pe3;pe5:1");
        x.go(2);
        Say.due("strikes of the second HOUR: 3 and 3", x.log(0, 1), 6);
        Say.due("of the first: 3 and 2", x.log(1, 1), 5);
        Say.due("the first struck", clock(x, 0, 9) * 10 + clock(x, 0, 8), 60);
        Say.due("the second struck", clock(x, 1, 9) * 10 + clock(x, 1, 8), 50);
        x = Say.house("r;r;r;r;r;ch0m99t2;cr1h0m99t3;cr2h0m99t4;cr3h0m99t5;cr4h0m99t6;pe7:0;pe7:1;pe7:2;pe7:3;pe7:4");
        x.go(3);
        for (int c = 0; c < 5; c++) Say.due("21 by " + (c + 2), clock(x, c, 9) * 10 + clock(x, c, 8), 21 / (c + 2) * 10 + 21 % (c + 2));
    }

    private static void lost() {
        Say.inTerms(2, "It has LOST FAT by 10 (cut) minutes more.");
        for (int fat = 1; fat <= 99; fat++) {
            FedClocks x = Say.house("r;r;ch0m99f" + fat + ";pe0:1");
            x.go(1);
            Say.due("LOST by FAT " + fat, clock(x, 0, 10), fat / 10);
            x.go(2);
            Say.due("in three HOURS", clock(x, 0, 10), fat / 10 * 3);
        }
        FedClocks x = Say.house("r;cf21h1m99;pe0");
        x.go(2);
        Say.due("20, 19", clock(x, 0, 10), 3);
        // ahead of going WILD, by what was eaten
        x = Say.house("r;cf99h0m50;pe9;pe9;pe9;pe9;pe9;pe9");
        x.go(1);
        Say.due("FAT 153", clock(x, 0, 10), 15);
        Say.due("half of it then", clock(x, 0, 2), 76);
        Say.due("one born LOST nothing", clock(x, 1, 10), 0);
        x = Say.house("r;cf9h9;pe0");
        x.go(1);
        Say.due("one that starved", clock(x, 0, 10), 0);
    }

    private static void goesWild() {
        Say.inTerms(2, "(4) Each CLOCK, by numbers, of those that lived as the HOUR began and do, with FAT above MOST goes WILD: FAT is half of it (cut)");
        for (int most = 1; most <= 98; most++)
            for (int over = -1; over <= 1; over++) {
                int fat = most + over;
                if (fat < 1) continue;
                FedClocks x = Say.house("r;r;ch0m" + most + "f" + fat + ";pe0");
                x.go(1);
                Say.due("FAT " + fat + ", MOST " + most, clock(x, 0, 2), over > 0 ? fat / 2 : fat);
                Say.due("CLOCKS", x.count(1), over > 0 ? 2 : 1);
                if (over > 0) Say.due("FAT of the one born", clock(x, 1, 2), fat / 2);
            }
        FedClocks x = Say.house("r;ch0f2m1;pe0");
        x.go(1);
        Say.due("half of 2", clock(x, 0, 2), 1);
        x = Say.house("r;ch0f3m1;pe0");
        x.go(1);
        Say.due("half of 3", clock(x, 0, 2), 1);
        // once an HOUR, even if half of it is above MOST; one born not in that HOUR
        x = Say.house("r;ch0f99m1;pe0");
        x.go(1);
        Say.due("half of 99", clock(x, 0, 2), 49);
        Say.due("of the one born", clock(x, 1, 2), 49);
        Say.due("one is born", x.log(0, 3), 1);
        x.go(1);
        Say.due("each of the two goes WILD", x.log(0, 3), 2);
        Say.due("half of 49", clock(x, 1, 2), 24);
        // one that starved does not
        x = Say.house("r;cf9h9m1;pe0");
        x.go(1);
        Say.due("CLOCKS", x.count(1), 1);
        // by what it eats in that HOUR
        x = Say.house("r;cf10h1m11;pe3");
        Say.due("10, 3 more, 1 less", x.wild(1, 1), 1);
        x = Say.house("r;cf10h1m12;pe3");
        Say.due("10, 3 more, 1 less", x.wild(1, 1), -1);
    }

    private static void isBorn() {
        Say.inTerms(2, ", and, if there are fewer than 10 CLOCKS, one is born: in its ROOM, with its HUNGER, MOST, STRIKE, FAT as much as it has then");
        FedClocks x = Say.house("r;r;r;cr2h3f80m50t77k0z1;cr1k1f50m99;pe9:2;pe0");
        x.paint(0, true);
        x.go(1);
        Say.due("CLOCKS", x.count(1), 3);
        // 80, nothing eaten by paint, 3 less: 77; half of it 38
        int[] want = {2, 3, 38, 50, 77, 0, -1, 1, 0, 0, 0, 0, 0};
        for (int what = 0; what < want.length; what++) Say.due("clock(2, " + what + ")", clock(x, 2, what), want[what]);
        // six told, each goes WILD: four are born, by numbers of their mothers
        x = Say.house("r;ch0f99m70;ch0f98m70;ch0f97m70;ch0f96m70;ch0f95m70;ch0f94m70;pe0");
        x.go(1);
        Say.due("CLOCKS", x.count(1), 10);
        Say.due("born", x.log(0, 3), 4);
        for (int c = 0; c < 4; c++) {
            Say.due("child(" + (6 + c) + ", 0)", x.child(6 + c, 0), c);
            Say.due("FAT", clock(x, 6 + c, 2), (99 - c) / 2);
        }
        Say.due("WILD without one born", clock(x, 5, 2), 47);
        // nine are fewer than ten, ten are not
        x = Say.house("r;ch0f99m70;ch0f99m70;ch0f99m70;ch0f60m70;ch0f60m70;ch0f60m70;pe0");
        x.go(1);
        Say.due("nine", x.count(1), 9);
        x.wind(3, 11);
        x.wind(4, 11);
        x.go(1);
        Say.due("ten", x.count(1), 10);
        Say.due("one is born", x.log(0, 3), 1);
        Say.due("the first of the two is its mother", x.child(9, 0), 3);
        Say.due("the second is half as well", clock(x, 4, 2), 35);
        // those that live no more are CLOCKS still
        x = Say.house("r;ch9f99m70;ch9f99m70;ch9f99m70;ch9f99m70;cf1;ch0f70m70;pe0");
        x.go(1);
        Say.due("ten with one that died", x.count(1) * 100 + x.count(8), 1009);
        x.go(5);
        x.wind(5, 1);
        x.go(1);
        Say.due("one alone lives", x.count(8), 1);
        Say.due("none is born", x.log(0, 3), 0);
        Say.due("but it is half", clock(x, 5, 2), 35);
    }

    /** All ten places that CLOCKS can have, each by itself. */
    private static void tenClocks() {
        Say.inTerms(2, ", and, if there are fewer than 10 CLOCKS, one is born");
        FedClocks x = Say.house("r;ch0f94m70t3;ch0f99m70;ch0f98m70;ch0f97m70t3;ch0f96m70;ch0f95m70;pe1");
        x.go(1);
        int[] fats = {47, 49, 49, 48, 48, 47, 47, 49, 49, 48};
        for (int c = 0; c < 10; c++) {
            Say.due("FAT of " + c, clock(x, c, 2), fats[c]);
            Say.due("EATEN of " + c, clock(x, c, 8), c == 0 ? 1 : 0);
            Say.due("SHOWS of " + c, x.shows(c), c < 6 ? 51 : 0);
            Say.due("CHILD " + c, x.child(c, 0), c < 6 ? -1 : c - 6);
        }
        x.face(9, 1);
        x.wind(0, 2);
        Say.due("the thinnest", x.looks(0), 5);
        x.go(1);
        for (int c = 0; c < 10; c++) {
            Say.due("HOURS since it struck of " + c, clock(x, c, 12), c < 6 ? 2 : 1);
            Say.due("EATEN of " + c, clock(x, c, 8), c == 0 || c == 5 ? 1 : 0);
            Say.due("SHOWS of " + c, x.shows(c), c < 6 ? 107 : 56);
            Say.due("whom " + c + " FACES", clock(x, c, 6), c == 9 ? 1 : -1);
        }
        Say.due("near(4)", x.near(4), 960);
        Say.due("near(13)", x.near(13), 1023);
        Say.due("middle()", x.middle(), 13);
        Say.due("seen(0, 0)", x.seen(0, 0), 1023);
        Say.due("how many live", x.count(8), 10);
        for (int kind = 0; kind <= 3; kind++) Say.due("of KIND " + kind, x.kinds(kind, 0), kind == 0 ? 10 : 0);
        Say.due("all live, whichever is PAINTED", x.spared(1, 0) * 100 + x.spared(1, 1), 10);
        Say.due("nobody is STILL", x.still(), 0);
        // a LURE of the last one counts for the last one alone: FAT 48, the thinnest 47
        Say.due("RESTS of 9 and 0: 9 has it by LURE 1", x.lures(9, 0, 1, 5, -1), 1);
        Say.due("it", x.lures(9, 0, 1, 5, 0), 10);
    }

    private static void kinds() {
        Say.inTerms(2, ", KIND: its own and that of the lowest other living CLOCK in that ROOM (its own again, if there is none) together modulo 4");
        for (int own = 0; own <= 3; own++)
            for (int other = 0; other <= 3; other++) {
                FedClocks x = Say.house("r;ch0f50m20k" + own + ";ch0k" + other + ";ch0k" + (other + 1) % 4 + ";pe0");
                x.go(1);
                Say.due("KIND of " + own + " and " + other, clock(x, 3, 5), (own + other) % 4);
                x = Say.house("r;ch0k" + other + ";ch0f50m20k" + own + ";pe0");
                x.go(1);
                Say.due("KIND of " + own + " and the lower " + other, clock(x, 2, 5), (own + other) % 4);
                x = Say.house("r;r;cr1h0k" + other + ";ch0f50m20k" + own + ";pe0");
                x.go(1);
                Say.due("the other is elsewhere", clock(x, 2, 5), own * 2 % 4);
                // the lower one dies in that very HOUR, the next one is the other
                x = Say.house("r;cf1k" + (other + 1) % 4 + ";ch0f50m20k" + own + ";ch0k" + other + ";pe0");
                x.go(1);
                Say.due("the living other", clock(x, 3, 5), (own + other) % 4);
                x = Say.house("rs1;r;cr1h0k" + other + ";ch0f50m20k" + own + ";pe0");
                x.go(1);
                Say.due("the other is where one SEES", clock(x, 2, 5), own * 2 % 4);
            }
    }

    private static void bornFacesNobody() {
        Say.inTerms(2, "; it FACES nobody.");
        FedClocks x = Say.house("r;ch0f50m20z1;ch0f50m20z0;pe3");
        x.go(1);
        Say.due("the first one born", clock(x, 2, 6), -1);
        Say.due("the second one born", clock(x, 3, 6), -1);
        Say.due("their mothers still do", clock(x, 0, 6) * 10 + clock(x, 1, 6), 10);
        Say.due("it can be looked at", x.looks(0), 2);
    }

    private static void bornIsOther() {
        Say.inTerms(2, "(One born can be the other one for those behind.)");
        // of those behind the lowest other one is its mother, as she is lower and there; it counts as one of them
        FedClocks x = Say.house("r;ch0f50m20k1;ch0f50m20k2;pe0");
        x.go(1);
        Say.due("1 and 2", clock(x, 2, 5), 3);
        Say.due("2 and 1, not 2 and 3", clock(x, 3, 5), 3);
        x.go(1);
        // 25 above 20 each: 1 and 2, 2 and 1, 3 and 1, 3 and 1
        int[] want = {3, 3, 0, 0};
        for (int c = 0; c < 4; c++) Say.due("KIND of " + (4 + c), clock(x, 4 + c, 5), want[c]);
        // later on it is the lowest other one, where its mother is not
        x = Say.house("r;r;ch0f50m20k1;cr1h0f10m10k3;pe0");
        x.go(1);
        Say.due("1 and 1", clock(x, 2, 5), 2);
        x.hang(0, 1);
        x.hang(1, 0);
        x.wind(1, 1);
        x.go(1);
        Say.due("of 0, alone: 1 and 1", clock(x, 3, 5), 2);
        Say.due("of 1: 3 and 2's 2", clock(x, 4, 5), 1);
        Say.due("of 2: 2 and 1's 3", clock(x, 5, 5), 1);
    }

    private static BigInteger x64;

    private static int draw(int m) {
        BigInteger round = BigInteger.ONE.shiftLeft(64);
        x64 = x64.multiply(new BigInteger("6364136223846793005")).add(new BigInteger("1442695040888963407")).mod(round);
        return x64.shiftRight(33).mod(BigInteger.valueOf(m)).intValue();
    }

    private static void seed(long seed) {
        x64 = BigInteger.valueOf(seed).mod(BigInteger.ONE.shiftLeft(64));
    }

    private static final long[] SEEDS = {0, 1, 2, 3, -1, -2, 42, 1000000007L, Long.MIN_VALUE, Long.MAX_VALUE, 0x123456789abcdefL, -0x123456789abcdefL,
        1L << 32, 1L << 33, -(1L << 33), 99, 100, 7777777777777L};

    private static void crowdsDraw() {
        Say.inTerms(2, "HOURS go by, by hand, or as CROWDS by a seed: ahead of (1) each PERSON by numbers draws of 100: below CROWD (0 .. 99; 0 at first) it is SENT to a draw of how many ROOMS.");
        FedClocks x = Say.house("r;r;r;c;p");
        Say.due("CROWD at first", x.count(7), 0);
        x.crowds(60, 1);
        Say.due("CROWD 0: nobody is SENT", x.person(0, 3), 0);
        for (long s : SEEDS) {
            // a draw of just CROWD is not below it; of one less it is
            seed(s);
            int first = draw(100);
            int room = draw(3);
            if (first > 0) {
                x = Say.house("r;r;r;c;p");
                x.crowd(first);
                x.crowds(1, s);
                Say.due("CROWD " + first + ", seed " + s, x.person(0, 3), 0);
            }
            if (first < 99) {
                x = Say.house("r;r;r;c;p");
                x.crowd(first + 1);
                x.crowds(1, s);
                Say.due("CROWD " + (first + 1) + ", seed " + s, x.person(0, 3), 1);
                Say.due("it is there in that HOUR", x.person(0, 2), room);
            }
        }
        // by hand nobody is SENT, whatever CROWD is
        x = Say.house("r;r;r;c;p;p;p");
        x.crowd(99);
        x.go(60);
        Say.due("by hand", x.person(0, 3) + x.person(1, 3) + x.person(2, 3), 0);
    }

    private static void seeds() {
        Say.inTerms(2, "x, at first the seed, becomes x times 6364136223846793005 and 1442695040888963407 (64 bits, going round)");
        for (int rooms = 1; rooms <= 5; rooms++)
            for (long s : SEEDS) {
                FedClocks x = Say.house("r;".repeat(rooms) + "ch0;p;pb1;p:0;pe9:00;p;p");
                x.crowd(37);
                int[] at = new int[6];
                boolean[] sent = new boolean[6];
                for (int again = 0; again < 2; again++) {
                    seed(s + again);
                    for (int hour = 0; hour < 5; hour++)
                        for (int p = 0; p < 6; p++) {
                            if (draw(100) >= 37) continue;
                            at[p] = draw(rooms);
                            sent[p] = true;
                        }
                    Say.due("crowds", x.crowds(5, s + again), 5 + again * 5);
                    for (int p = 0; p < 6; p++) {
                        Say.due("seed " + s + ": where " + p + " is", x.person(p, 2), at[p]);
                        Say.due("seed " + s + ": whether " + p + " is SENT", x.person(p, 3), sent[p] ? 1 : 0);
                    }
                }
            }
    }

    private static void drawing() {
        Say.inTerms(2, "; a draw of m: (x shifted right by 33, without sign) modulo m.");
        // of all ROOMS, by seeds whose first draw is below 0 with a sign
        int below = 0;
        for (long s = -40; s < 40; s++) {
            seed(s);
            int first = draw(100);
            if (x64.testBit(63)) below++;
            int room = draw(5);
            if (x64.testBit(63)) below++;
            FedClocks x = Say.house("r;r;r;r;r;c;p");
            x.crowd(99);
            x.crowds(1, s);
            Say.due("seed " + s, x.person(0, 2), first < 99 ? room : 0);
        }
        Say.due("some have a sign", below > 40, true);
    }

    private static void putBy() {
        Say.inTerms(2, "Put by are the latest 60 HOURS: all that was eaten, all strikes, how many STARVED, how many were born.");
        for (int last = 1; last <= 70; last++) {
            FedClocks x = Say.house("r;ch0m99f1t99;pe1;pb1");
            for (int hour = 1; hour <= last; hour++) {
                // every seventh HOUR nothing is eaten
                x.blind(0, hour % 7 == 0);
                x.go(1);
                Say.due("HOURS put by", x.count(11), Math.min(60, hour));
            }
            for (int i = 0; i < Math.min(60, last); i++) Say.due("eaten in HOUR " + (last - i), x.log(i, 0), (last - i) % 7 == 0 ? 0 : 1);
            Say.due("no more than that", x.log(Math.min(60, last), 0), -1);
        }
        FedClocks x = Say.house("r;cf5t2h0;ch9f9;ch9f9;cf99m90h0;pe5");
        x.paint(3, true);
        x.go(1);
        int[] want = {5, 2, 2, 1};
        for (int what = 0; what < 4; what++) Say.due("log(0, " + what + ")", x.log(0, what), want[what]);
        x.paint(0, true);
        x.go(1);
        int[] next = {0, 0, 0, 0};
        for (int what = 0; what < 4; what++) {
            Say.due("log(0, " + what + ")", x.log(0, what), next[what]);
            Say.due("log(1, " + what + ")", x.log(1, what), want[what]);
        }
        // as CROWDS as well
        x.crowds(3, 1);
        Say.due("HOURS put by", x.count(11), 5);
        x.crowds(60, 1);
        Say.due("HOURS put by", x.count(11), 60);
    }

    private static void byHand() {
        Say.inTerms(2, "By hand: a PERSON is SENT to a ROOM, or is not any more; is BLIND or not; a CLOCK is hung in another ROOM; FACES another one, or nobody; is WOUND: FAT 1 .. 20 more (99 at most)");
        for (int fat = 75; fat <= 99; fat++)
            for (int by = -1; by <= 22; by++) {
                FedClocks x = Say.house("r;cm99f" + fat + ";p");
                boolean may = by >= 1 && by <= 20;
                Say.due("wind(0, " + by + ") at " + fat, x.wind(0, by), may ? Math.min(99, fat + by) : -1);
                Say.due("FAT", clock(x, 0, 2), may ? Math.min(99, fat + by) : fat);
                Say.due("ACTS", x.count(10), may ? 1 : 0);
            }
        Say.inTerms(2, "; is PAINTED, or not any more: it is looked at as ever, but eats nothing by it (that is lost).");
        FedClocks x = Say.house("r;cf10h1t2;cf11h1t2;pe4;pe3");
        x.paint(0, true);
        Say.due("it is looked at", x.looks(0) * 10 + x.looks(1), 0);
        Say.due("it is seen", x.seen(0, 0), 3);
        x.go(1);
        Say.due("FAT", clock(x, 0, 2), 9);
        Say.due("EATEN", clock(x, 0, 8), 0);
        Say.due("the other has none of it", clock(x, 1, 2), 10);
        Say.due("nothing was eaten", x.log(0, 0) + x.count(12), 0);
        Say.due("nothing struck", x.log(0, 1) + x.count(13), 0);
        x.paint(0, false);
        x.go(1);
        Say.due("FAT", clock(x, 0, 2), 15);
        Say.due("eaten", x.count(12), 7);
    }

    private static final int SORTS_OF_ACTS = 8;

    /** An object with the first n of eight ACTS, each of another sort. */
    private static FedClocks oneOfEach(int n) {
        FedClocks x = Say.house("r;r;cf20;cf30;p");
        x.crowd(99);
        for (int i = 0; i < n; i++) {
            switch (i) {
                case 0: Say.due("send", x.send(0, 1), 1); break;
                case 1: Say.due("blind", x.blind(0, true), 2); break;
                case 2: Say.due("hang", x.hang(0, 1), 3); break;
                case 3: Say.due("face", x.face(0, 1), 4); break;
                case 4: Say.due("wind", x.wind(0, 20), 40); break;
                case 5: Say.due("paint", x.paint(0, true), 6); break;
                case 6: Say.due("go", x.go(1), 1); break;
                default: Say.due("crowds", x.crowds(1, 5), 2); break;
            }
            Say.due("ACTS", x.count(10), i + 1);
        }
        return x;
    }

    private static void acts() {
        Say.inTerms(2, "All these, and each HOUR, are ACTS: the latest 40 can be UNDONE one by one (with what is put by of an HOUR).");
        for (int n = 0; n <= SORTS_OF_ACTS; n++) {
            FedClocks x = oneOfEach(n);
            String was = Say.all(x);
            x = oneOfEach(SORTS_OF_ACTS);
            for (int left = SORTS_OF_ACTS - 1; left >= n; left--) Say.due("undo", x.undo(), left);
            Say.due("all is as it was ahead of ACT " + n, Say.all(x).equals(was), true);
            if (n == 0) Say.due("undo of none", x.undo(), -1);
        }
        // forty of forty-five, the first of them of each sort
        FedClocks x = oneOfEach(SORTS_OF_ACTS);
        for (int i = SORTS_OF_ACTS + 1; i <= 45; i++) Say.due("ACTS", x.send(0, i % 2 == 0 ? 1 : -1), Math.min(40, i));
        for (int i = 39; i >= 0; i--) Say.due("undo", x.undo(), i);
        Say.due("undo of none", x.undo(), -1);
        Say.due("as behind the fifth", Say.told(x).equals(Say.told(oneOfEach(5))), true);
        x = Say.house("r;r;cf20m99h0;cf30h0;p");
        for (int i = 1; i <= 45; i++) Say.due("ACTS", x.hang(0, i % 2), Math.min(40, i));
        for (int i = 39; i >= 0; i--) Say.due("undo", x.undo(), i);
        Say.due("undo of none", x.undo(), -1);
        Say.due("where the fifth hung it", clock(x, 0, 0), 1);
        for (int i = 1; i <= 39; i++) x.wind(1, 1);
        Say.due("39", x.count(10), 39);
        x.go(1);
        Say.due("40", x.count(10), 40);
        x.go(1);
        Say.due("still 40", x.count(10), 40);
        // sixty HOURS are put by still, when a later one is UNDONE
        x = Say.house("r;ch0m99f1t99;pe1");
        x.go(40);
        x.paint(0, true);
        x.go(60);
        Say.due("HOURS put by", x.count(11), 60);
        Say.due("the oldest", x.log(59, 0), 0);
        Say.due("undo", x.undo(), 39);
        Say.due("HOURS put by", x.count(11), 60);
        Say.due("the oldest: of HOUR 40", x.log(59, 0), 1);
        Say.due("that behind it", x.log(58, 0), 0);
        for (int i = 38; i >= 0; i--) {
            x.undo();
            Say.due("HOURS put by", x.count(11), 60);
            Say.due("of HOUR 40", x.log(20 + i, 0), 1);
            Say.due("of HOUR 41", x.log(19 + i, 0), 0);
        }
        Say.due("none to be UNDONE", x.undo(), -1);
        Say.due("HOUR", x.count(6), 60);
    }

    private static void clock() {
        Say.inPromise(6, "Of a CLOCK: 0 its ROOM, 1 HUNGER, 2 FAT, 3 MOST, 4 STRIKE, 5 KIND, 6 whom it FACES (NONE), 7 whether it lives (1, 0), 8 EATEN since it struck, 9 how often it struck, 10 what it LOST, 11 PAINTED (1, 0), 12 HOURS since it struck.");
        FedClocks x = Say.house("r;r;cr1h2f33m44t5k3z1;cf1h9z0;p:1");
        int[] told = {1, 2, 33, 44, 5, 3, 1, 1, 0, 0, 0, 0, 0};
        for (int what = 0; what <= 12; what++) Say.due("clock(0, " + what + ")", clock(x, 0, what), told[what]);
        x.face(0, -1);
        x.paint(1, true);
        x.go(4);
        // 2 eaten an HOUR, as much HUNGER: strikes in the third, 1 left and 2 more
        int[] later = {1, 2, 33, 44, 5, 3, -1, 1, 3, 1, 12, 0, 1};
        int[] dead = {0, 9, 0, 40, 8, 0, 0, 0, 0, 0, 0, 1, 4};
        for (int what = 0; what <= 12; what++) {
            Say.due("clock(0, " + what + ")", clock(x, 0, what), later[what]);
            Say.due("clock(1, " + what + ")", clock(x, 1, what), dead[what]);
        }
        Say.inPromise(6, "NoSuchElementException: no such ones.");
        for (int c : new int[] {-1, 2, 6, 9, 10}) Say.due("clock(" + c + ", 0)", clock(x, c, 0), Say.THROWN);
        for (int what : new int[] {-1, 13, 14}) Say.due("clock(0, " + what + ")", clock(x, 0, what), Say.THROWN);
        for (int n : Say.FAR) {
            Say.due("clock(" + n + ", 0)", clock(x, n, 0), Say.THROWN);
            Say.due("clock(0, " + n + ")", clock(x, 0, n), Say.THROWN);
        }
        Say.due("without a HOUSE", clock(new FedClocks(), 0, 0), Say.THROWN);
        x = Say.house("r;cf50m20h0;pe0");
        Say.due("not born yet", clock(x, 1, 0), Say.THROWN);
        x.go(1);
        Say.due("born", clock(x, 1, 0), 0);
        x.undo();
        Say.due("UNDONE", clock(x, 1, 0), Say.THROWN);
    }

    private static void person() {
        Say.inPromise(7, "Of a PERSON: 0 EYES, 1 BLIND, 2 where it is, 3 SENT (1, 0), 4 how long its WAY is.");
        FedClocks x = Say.house("r;r;c;pe7b1:010;p;pe0b0:01010101");
        int[][] told = {{7, 1, 0, 0, 3}, {2, 0, 0, 0, 0}, {0, 0, 0, 0, 8}};
        for (int p = 0; p < 3; p++)
            for (int what = 0; what <= 4; what++) Say.due("person(" + p + ", " + what + ")", x.person(p, what), told[p][what]);
        x.send(0, 0);
        x.send(2, 1);
        x.blind(1, true);
        x.blind(0, false);
        x.go(1);
        int[][] then = {{7, 0, 0, 1, 3}, {2, 1, 0, 0, 0}, {0, 0, 1, 1, 8}};
        for (int p = 0; p < 3; p++)
            for (int what = 0; what <= 4; what++) Say.due("person(" + p + ", " + what + ")", x.person(p, what), then[p][what]);
        Say.inPromise(7, "NONE: no such ones.");
        for (int p : new int[] {-1, 3, 6}) Say.due("person(" + p + ", 0)", x.person(p, 0), -1);
        for (int what : new int[] {-1, 5}) Say.due("person(0, " + what + ")", x.person(0, what), -1);
        for (int n : Say.FAR) {
            Say.due("person(" + n + ", 0)", x.person(n, 0), -1);
            Say.due("person(0, " + n + ")", x.person(0, n), -1);
        }
        Say.due("without a HOUSE", new FedClocks().person(0, 0), -1);
        x = Say.house("r;c;p;p;p;p;p;p");
        Say.due("the sixth", x.person(5, 0), 2);
        Say.due("a seventh", x.person(6, 0), -1);
    }

    private static void crowd() {
        Say.inPromise(10, "CROWD (0 .. 99).");
        FedClocks x = new FedClocks();
        for (int v : new int[] {1, 98, 99, 50, 0}) {
            Say.due("crowd(" + v + ")", x.crowd(v), true);
            Say.due("count(7)", x.count(7), v);
        }
        Say.inPromise(10, "False: out of bounds, it is so.");
        Say.due("crowd(0)", x.crowd(0), false);
        Say.due("crowd(-1)", x.crowd(-1), false);
        Say.due("crowd(100)", x.crowd(100), false);
        for (int v : Say.FAR) Say.due("crowd(" + v + ")", x.crowd(v), false);
        Say.due("count(7)", x.count(7), 0);
        x.crowd(99);
        Say.due("crowd(99)", x.crowd(99), false);
        Say.due("crowd(100)", x.crowd(100), false);
        Say.due("count(7)", x.count(7), 99);
    }

    private static void go() {
        Say.inPromise(11, "HOURS (1 .. 60) go by: the HOUR.");
        FedClocks x = Say.house("r;ch0;pe0");
        int hour = 0;
        for (int n : new int[] {1, 2, 59, 60, 60, 1}) {
            hour += n;
            Say.due("go(" + n + ")", x.go(n), hour);
            Say.due("HOUR", x.count(6), hour);
        }
        Say.inPromise(11, "NONE: no HOUSE, out of bounds.");
        for (int n : new int[] {0, -1, 61, 62}) Say.due("go(" + n + ")", x.go(n), -1);
        for (int n : Say.FAR) Say.due("go(" + n + ")", x.go(n), -1);
        Say.due("HOUR", x.count(6), hour);
        for (int n : new int[] {0, 1, 60, 61}) Say.due("go(" + n + ") without a HOUSE", new FedClocks().go(n), -1);
    }

    private static void crowds() {
        Say.inPromise(12, "CROWDS: as many HOURS (1 .. 60): the HOUR.");
        FedClocks x = Say.house("r;ch0;pe0");
        int hour = 0;
        for (int n : new int[] {1, 2, 59, 60, 60, 1}) {
            hour += n;
            Say.due("crowds(" + n + ", 7)", x.crowds(n, 7), hour);
            Say.due("HOUR", x.count(6), hour);
        }
        Say.inPromise(12, "NONE: no HOUSE, out of bounds.");
        for (int n : new int[] {0, -1, 61, 62}) Say.due("crowds(" + n + ", 7)", x.crowds(n, 7), -1);
        for (int n : Say.FAR) Say.due("crowds(" + n + ", 7)", x.crowds(n, 7), -1);
        Say.due("HOUR", x.count(6), hour);
        for (int n : new int[] {0, 1, 60, 61}) Say.due("crowds(" + n + ", 7) without a HOUSE", new FedClocks().crowds(n, 7), -1);
    }

    private static void send() {
        Say.inPromise(13, "A PERSON is SENT (room NONE: not any more): how many ACTS can be UNDONE.");
        FedClocks x = Say.house("r;r;r;r;r;c;p;p;p;p;p;p");
        Say.due("send(0, 0)", x.send(0, 0), 1);
        Say.due("send(5, 4)", x.send(5, 4), 2);
        Say.due("send(0, 4)", x.send(0, 4), 3);
        Say.due("SENT", x.person(0, 3) * 10 + x.person(5, 3), 11);
        Say.due("the others are not", x.person(1, 3) + x.person(4, 3), 0);
        Say.due("send(0, -1)", x.send(0, -1), 4);
        Say.due("not any more", x.person(0, 3), 0);
        Say.inPromise(13, "NONE: no such ones, it is so.");
        Say.due("send(0, -1): it is so", x.send(0, -1), -1);
        Say.due("send(5, 4): it is so", x.send(5, 4), -1);
        for (int p : new int[] {-1, 6, 7}) Say.due("send(" + p + ", 0)", x.send(p, 0), -1);
        for (int r : new int[] {-2, 5, 6}) Say.due("send(1, " + r + ")", x.send(1, r), -1);
        for (int n : Say.FAR) {
            Say.due("send(" + n + ", 0)", x.send(n, 0), -1);
            Say.due("send(1, " + n + ")", x.send(1, n), -1);
        }
        Say.due("without a HOUSE", new FedClocks().send(0, 0), -1);
        Say.due("without a HOUSE", new FedClocks().send(0, -1), -1);
        // being there is not being SENT there
        Say.due("send(1, 0) of one in ROOM 0", x.send(1, 0), 5);
    }

    private static void blind() {
        Say.inPromise(14, "BLIND or not: how many ACTS can be UNDONE.");
        FedClocks x = Say.house("r;c;p;pb1");
        Say.due("blind(0, true)", x.blind(0, true), 1);
        Say.due("blind(1, false)", x.blind(1, false), 2);
        Say.due("BLIND", x.person(0, 1) * 10 + x.person(1, 1), 10);
        Say.inPromise(14, "NONE: no such PERSON, it is so.");
        Say.due("blind(0, true): it is so", x.blind(0, true), -1);
        Say.due("blind(1, false): it is so", x.blind(1, false), -1);
        for (int p : new int[] {-1, 2, 6}) {
            Say.due("blind(" + p + ", true)", x.blind(p, true), -1);
            Say.due("blind(" + p + ", false)", x.blind(p, false), -1);
        }
        for (int p : Say.FAR) Say.due("blind(" + p + ", true)", x.blind(p, true), -1);
        Say.due("ACTS", x.count(10), 2);
        Say.due("without a HOUSE", new FedClocks().blind(0, true), -1);
        Say.due("without a HOUSE", new FedClocks().blind(0, false), -1);
    }

    /** A HOUSE with CLOCK 0 dead, 1 and 2 living, nothing else of note; one ACT. */
    private static FedClocks oneDied() {
        FedClocks x = Say.house("r;r;cf1;cf50m99;cf60m99;pe0");
        x.go(1);
        return x;
    }

    private static void hang() {
        Say.inPromise(15, "A CLOCK is hung: how many ACTS can be UNDONE.");
        FedClocks x = oneDied();
        Say.due("hang(1, 1)", x.hang(1, 1), 2);
        Say.due("its ROOM", clock(x, 1, 0), 1);
        Say.due("hang(1, 0)", x.hang(1, 0), 3);
        Say.due("hang(2, 1)", x.hang(2, 1), 4);
        Say.due("ROOMS", clock(x, 1, 0) * 10 + clock(x, 2, 0), 1);
        Say.inPromise(15, "NONE: no such living one, no such ROOM, it hangs there.");
        Say.due("one that died", x.hang(0, 1), -1);
        for (int c : new int[] {-1, 3, 10}) Say.due("hang(" + c + ", 1)", x.hang(c, 1), -1);
        for (int r : new int[] {-1, 2, 5}) Say.due("hang(1, " + r + ")", x.hang(1, r), -1);
        Say.due("it hangs there", x.hang(1, 0), -1);
        Say.due("it hangs there", x.hang(2, 1), -1);
        for (int n : Say.FAR) {
            Say.due("hang(" + n + ", 1)", x.hang(n, 1), -1);
            Say.due("hang(1, " + n + ")", x.hang(1, n), -1);
        }
        Say.due("ACTS", x.count(10), 4);
        Say.due("without a HOUSE", new FedClocks().hang(0, 0), -1);
    }

    private static void face() {
        Say.inPromise(16, "It FACES another one (other NONE: nobody): how many ACTS can be UNDONE.");
        FedClocks x = oneDied();
        Say.due("face(1, 2)", x.face(1, 2), 2);
        Say.due("FACES", clock(x, 1, 6), 2);
        Say.due("nobody FACES by that", clock(x, 2, 6), -1);
        Say.due("one that died", x.face(2, 0), 3);
        Say.due("face(1, -1)", x.face(1, -1), 4);
        Say.due("nobody", clock(x, 1, 6), -1);
        Say.inPromise(16, "NONE: no such living one, no such other one, itself, it is so.");
        Say.due("one that died", x.face(0, 1), -1);
        for (int c : new int[] {-1, 3, 10}) Say.due("face(" + c + ", 1)", x.face(c, 1), -1);
        for (int c : new int[] {-2, 3, 6, 10}) Say.due("face(1, " + c + ")", x.face(1, c), -1);
        Say.due("itself", x.face(1, 1), -1);
        Say.due("itself", x.face(2, 2), -1);
        Say.due("it is so", x.face(2, 0), -1);
        Say.due("it is so: nobody", x.face(1, -1), -1);
        for (int n : Say.FAR) {
            Say.due("face(" + n + ", 1)", x.face(n, 1), -1);
            Say.due("face(1, " + n + ")", x.face(1, n), -1);
        }
        Say.due("ACTS", x.count(10), 4);
        Say.due("without a HOUSE", new FedClocks().face(0, 1), -1);
    }

    private static void wind() {
        Say.inPromise(17, "WOUND: its FAT.");
        FedClocks x = oneDied();
        Say.due("wind(1, 1)", x.wind(1, 1), 50);
        Say.due("wind(1, 20)", x.wind(1, 20), 70);
        Say.due("wind(2, 20)", x.wind(2, 20), 79);
        Say.due("wind(2, 19)", x.wind(2, 19), 98);
        Say.due("wind(2, 20)", x.wind(2, 20), 99);
        Say.due("wind(2, 1) at 99", x.wind(2, 1), 99);
        Say.due("ACTS", x.count(10), 7);
        Say.inPromise(17, "NONE: no such living one, out of bounds.");
        Say.due("one that died", x.wind(0, 1), -1);
        for (int c : new int[] {-1, 3, 10}) Say.due("wind(" + c + ", 1)", x.wind(c, 1), -1);
        for (int by : new int[] {-1, 0, 21, 22}) Say.due("wind(1, " + by + ")", x.wind(1, by), -1);
        for (int n : Say.FAR) {
            Say.due("wind(" + n + ", 1)", x.wind(n, 1), -1);
            Say.due("wind(1, " + n + ")", x.wind(1, n), -1);
        }
        Say.due("ACTS", x.count(10), 7);
        Say.due("without a HOUSE", new FedClocks().wind(0, 1), -1);
    }

    private static void paint() {
        Say.inPromise(18, "PAINTED or not: how many ACTS can be UNDONE.");
        FedClocks x = oneDied();
        Say.due("paint(1, true)", x.paint(1, true), 2);
        Say.due("paint(2, true)", x.paint(2, true), 3);
        Say.due("paint(1, false)", x.paint(1, false), 4);
        Say.due("PAINTED", clock(x, 1, 11) * 10 + clock(x, 2, 11), 1);
        Say.inPromise(18, "NONE: no such living one, it is so.");
        Say.due("one that died", x.paint(0, true), -1);
        Say.due("one that died", x.paint(0, false), -1);
        for (int c : new int[] {-1, 3, 10}) Say.due("paint(" + c + ", true)", x.paint(c, true), -1);
        for (int c : Say.FAR) Say.due("paint(" + c + ", true)", x.paint(c, true), -1);
        Say.due("it is so", x.paint(1, false), -1);
        Say.due("it is so", x.paint(2, true), -1);
        Say.due("ACTS", x.count(10), 4);
        Say.due("without a HOUSE", new FedClocks().paint(0, true), -1);
    }

    private static void undo() {
        Say.inPromise(19, "The latest ACT is UNDONE: how many still can be.");
        FedClocks x = Say.house("r;r;cf50m99h0;p");
        x.hang(0, 1);
        x.go(3);
        x.hang(0, 0);
        Say.due("undo of hang", x.undo(), 4);
        Say.due("ROOM", clock(x, 0, 0), 1);
        Say.due("undo of an HOUR", x.undo(), 3);
        Say.due("one HOUR of three", x.count(6) * 10 + x.count(11), 22);
        Say.due("another ACT", x.send(0, 1), 4);
        for (int n = 3; n >= 0; n--) Say.due("undo", x.undo(), n);
        Say.due("HOUR", x.count(6), 0);
        Say.due("ROOM", clock(x, 0, 0), 0);
        Say.inPromise(19, "NONE: none.");
        Say.due("undo", x.undo(), -1);
        Say.due("without a HOUSE", new FedClocks().undo(), -1);
        x.image();
        x.go(1);
        x.back();
        Say.due("behind BACK", x.undo(), -1);
    }

    private static void log() {
        Say.inPromise(20, "Put by of the latest HOUR (i 0), the one ahead of it (1) ..: 0 eaten, 1 strikes, 2 STARVED, 3 born.");
        FedClocks x = Say.house("r;cf20t2m22h0;cf1h1;pe3");
        // the second eats first; then the first
        x.go(1);
        x.paint(1, true);
        x.go(1);
        x.go(1);
        x.go(1);
        int[][] want = {{0, 0, 1, 0}, {0, 0, 0, 0}, {0, 0, 0, 0}, {3, 0, 0, 0}};
        for (int i = 0; i < 4; i++)
            for (int what = 0; what < 4; what++) Say.due("log(" + i + ", " + what + ")", x.log(i, what), want[i][what]);
        x.go(1);
        int[] now = {3, 1, 0, 1};
        for (int what = 0; what < 4; what++) {
            Say.due("log(0, " + what + ")", x.log(0, what), now[what]);
            Say.due("log(1, " + what + ")", x.log(1, what), want[0][what]);
        }
        Say.inPromise(20, "NONE: no such ones.");
        for (int i : new int[] {-1, 5, 6, 59, 60}) Say.due("log(" + i + ", 0)", x.log(i, 0), -1);
        for (int what : new int[] {-1, 4}) Say.due("log(0, " + what + ")", x.log(0, what), -1);
        for (int n : Say.FAR) {
            Say.due("log(" + n + ", 0)", x.log(n, 0), -1);
            Say.due("log(0, " + n + ")", x.log(0, n), -1);
        }
        x.go(60);
        Say.due("log(59, 0)", x.log(59, 0) >= 0, true);
        Say.due("log(60, 0)", x.log(60, 0), -1);
        Say.due("of no HOUR", Say.house("r;c;p").log(0, 0), -1);
        Say.due("without a HOUSE", new FedClocks().log(0, 0), -1);
    }
}
