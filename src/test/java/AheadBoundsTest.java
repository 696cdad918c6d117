/** The sentences about what is ahead, what clocks show, games, images and counts: each bound of each, inside and outside. */
public final class AheadBoundsTest {
    public static void main(String[] args) {
        apart();
        ahead();
        starves();
        wild();
        full();
        kinds();
        rota();
        fewest();
        best();
        shows();
        near();
        middle();
        ring();
        still();
        deaths();
        hear();
        thief();
        lures();
        later();
        spared();
        seen();
        looks();
        child();
        all();
        image();
        back();
        count();
        constants();
        Say.end();
    }

    private static int clock(FedClocks x, int c, int what) {
        return Say.clock(x, c, what);
    }

    private static void apart() {
        Say.inTerms(3, "(Apart, from as it is, HOURS by hand.)");
        FedClocks x = Say.house("rs1;rs0;cf20z1;cr1f90m20h0z0;cf9m30h3;pe9:01;pb1;pe3", "y:f*d");
        x.crowd(99);
        x.go(2);
        x.paint(2, true);
        x.hear(1, 0);
        x.image();
        x.send(2, 1);
        String was = Say.all(x);
        x.ahead(1, 60);
        x.starves(60, 0);
        x.wild(60, 0);
        x.full();
        x.kinds(0, 60);
        x.rota(12, -1);
        x.fewest(12);
        x.best(24, 0);
        x.thief(0, 4, -1);
        x.lures(0, 1, 12, 50, -1);
        x.later(0);
        x.spared(24, 0);
        x.looks(0);
        Say.due("all is as it was", Say.all(x).equals(was), true);
        x.undo();
        x.back();
        Say.due("the IMAGE as well", x.count(6), 2);
        // as it is: SENT, BLIND, PAINTED, FACES, FAT, the TASTE that holds
        x = Say.house("r;r;ch1f9;ch1f8;p:0", "y:f");
        Say.due("the fatter one eats", x.ahead(0, 1), 10);
        x.taste(-1);
        Say.due("the thinner one eats", x.ahead(0, 1), 8);
        x.wind(1, 2);
        Say.due("now the other one", x.ahead(0, 1), 10);
        x.send(0, 1);
        Say.due("SENT away", x.ahead(0, 1), 8);
        x.send(0, -1);
        x.blind(0, true);
        Say.due("BLIND", x.ahead(0, 1), 8);
        x.blind(0, false);
        x.paint(0, true);
        Say.due("PAINTED", x.ahead(0, 1), 8);
        x.paint(0, false);
        x.face(0, 1);
        x.face(1, 0);
        Say.due("STILL", x.ahead(0, 1), 8);
        // by hand: CROWD does nothing
        x = Say.house("r;r;r;r;r;ch1f50m99;p:0");
        x.crowd(99);
        Say.due("by hand it eats each HOUR", x.ahead(0, 20), 70);
        Say.due("50, and 50 more", x.wild(60, 1), 50);
    }

    private static void ahead() {
        Say.inTerms(3, "AHEAD: FAT of a CLOCK behind n (0 .. 60) HOURS (0: it does not live, is not there).");
        Say.inPromise(21, "AHEAD.");
        FedClocks x = Say.house("r;cf60h1m99;cf61h1m99;ch0f99m60;pe0");
        for (int n = 0; n <= 60; n++) {
            Say.due("ahead(0, " + n + ")", x.ahead(0, n), 60 - n);
            Say.due("ahead(1, " + n + ")", x.ahead(1, n), 61 - n);
            Say.due("ahead(2, " + n + ")", x.ahead(2, n), n == 0 ? 99 : 49);
            Say.due("ahead(3, " + n + ")", x.ahead(3, n), n == 0 ? 0 : 49);
            Say.due("ahead(4, " + n + "): not there", x.ahead(4, n), 0);
            Say.due("ahead(9, " + n + "): not there", x.ahead(9, n), 0);
        }
        x.go(60);
        Say.due("it lives no more", x.ahead(0, 0), 0);
        Say.due("nor then", x.ahead(0, 60), 0);
        Say.due("the last HOUR of another", x.ahead(1, 0) * 10 + x.ahead(1, 1), 10);
        Say.inPromise(21, "NONE: no HOUSE, out of bounds (clock 0 .. 9).");
        for (int c : new int[] {-1, 10, 11}) Say.due("ahead(" + c + ", 0)", x.ahead(c, 0), -1);
        for (int n : new int[] {-1, 61, 62}) Say.due("ahead(0, " + n + ")", x.ahead(0, n), -1);
        for (int n : Say.FAR) {
            Say.due("ahead(" + n + ", 0)", x.ahead(n, 0), -1);
            Say.due("ahead(0, " + n + ")", x.ahead(0, n), -1);
        }
        for (int c = -1; c <= 10; c++) Say.due("without a HOUSE", new FedClocks().ahead(c, 0), -1);
        // ten of them, and one that is born far ahead
        x = Say.house("r;ch0f99m30;ch0f99m30;ch0f99m30;ch0f99m30;ch0f99m30;ch0f60m99;pe0");
        Say.due("the tenth", x.ahead(9, 1) + x.ahead(9, 2), 49 + 24);
    }

    private static void starves() {
        Say.inTerms(3, "FIRST that STARVES within n HOURS: which (of several in an HOUR the lowest), in which (from 1).");
        Say.inPromise(22, "FIRST that STARVES within n (1 .. 60): which (0), in which HOUR (1).");
        for (int fat : new int[] {1, 2, 59, 60, 61}) {
            FedClocks x = Say.house("r;cf99h0m99;cf" + fat + "h1m99;cf" + fat + "h1m99;pe0");
            for (int n : new int[] {1, 2, 58, 59, 60}) {
                Say.due("starves(" + n + ", 0) of FAT " + fat, x.starves(n, 0), n >= fat ? 1 : -1);
                Say.due("starves(" + n + ", 1) of FAT " + fat, x.starves(n, 1), n >= fat ? fat : -1);
            }
        }
        FedClocks x = Say.house("r;cf5h1;cf3h1;cf3h1;pe0");
        Say.due("the sooner one, not the lowest", x.starves(60, 0) * 10 + x.starves(60, 1), 13);
        x.go(2);
        Say.due("from now", x.starves(1, 1), 1);
        x.go(1);
        Say.due("those that died do not starve again", x.starves(60, 0) * 10 + x.starves(60, 1), 2);
        Say.inPromise(22, "NONE: none, no HOUSE, out of bounds, no such what.");
        Say.due("within 1", x.starves(1, 0), -1);
        Say.due("within 1", x.starves(1, 1), -1);
        for (int n : new int[] {-1, 0, 61}) {
            Say.due("starves(" + n + ", 0)", x.starves(n, 0), -1);
            Say.due("starves(" + n + ", 1)", x.starves(n, 1), -1);
        }
        for (int what : new int[] {-1, 2}) Say.due("starves(60, " + what + ")", x.starves(60, what), -1);
        for (int n : Say.FAR) {
            Say.due("starves(" + n + ", 0)", x.starves(n, 0), -1);
            Say.due("starves(60, " + n + ")", x.starves(60, n), -1);
        }
        for (int what = -1; what <= 2; what++)
            for (int n : new int[] {0, 1, 60, 61}) Say.due("without a HOUSE", new FedClocks().starves(n, what), -1);
        x.go(2);
        Say.due("none lives", x.starves(60, 0), -1);
    }

    private static void wild() {
        Say.inTerms(3, "WILD likewise: the first that goes WILD.");
        Say.inPromise(23, "WILD likewise.");
        // one more FAT an HOUR: above MOST in HOUR most - 9
        for (int hour : new int[] {1, 2, 59, 60, 61}) {
            FedClocks x = Say.house("r;r;ch0;cr1h0f10m" + (9 + hour) + ";pe1:1");
            for (int n : new int[] {1, 2, 58, 59, 60}) {
                Say.due("wild(" + n + ", 0) of HOUR " + hour, x.wild(n, 0), n >= hour ? 1 : -1);
                Say.due("wild(" + n + ", 1) of HOUR " + hour, x.wild(n, 1), n >= hour ? hour : -1);
            }
        }
        FedClocks x = Say.house("r;r;r;ch0f10m13;cr1h0f10m11;cr2h0f10m11;pe1;pe1:1;pe1:2");
        Say.due("the sooner ones, the lower of them", x.wild(60, 0) * 10 + x.wild(60, 1), 12);
        // one that goes WILD though none can be born
        x = Say.house("r;ch0f99m40;ch0f99m40;ch0f99m40;ch0f99m40;ch9;ch0f40m40;pe0");
        x.go(1);
        x.go(1);
        Say.due("CLOCKS", x.count(1), 10);
        Say.due("none", x.wild(60, 0), -1);
        x.wind(5, 1);
        Say.due("it goes WILD, full or not", x.wild(60, 0) * 10 + x.wild(60, 1), 51);
        Say.inPromise(23, "NONE likewise.");
        x.undo();
        Say.due("none", x.wild(60, 1), -1);
        x.wind(5, 1);
        for (int n : new int[] {-1, 0, 61}) {
            Say.due("wild(" + n + ", 0)", x.wild(n, 0), -1);
            Say.due("wild(" + n + ", 1)", x.wild(n, 1), -1);
        }
        for (int what : new int[] {-1, 2}) Say.due("wild(60, " + what + ")", x.wild(60, what), -1);
        for (int n : Say.FAR) {
            Say.due("wild(" + n + ", 0)", x.wild(n, 0), -1);
            Say.due("wild(60, " + n + ")", x.wild(60, n), -1);
        }
        for (int what = -1; what <= 2; what++)
            for (int n : new int[] {0, 1, 60, 61}) Say.due("without a HOUSE", new FedClocks().wild(n, what), -1);
    }

    private static void full() {
        Say.inTerms(3, "FULL: behind how many HOURS there are 10 CLOCKS.");
        Say.inPromise(24, "FULL.");
        // nine behind the first HOUR, the tenth by what is eaten in ROOM 1
        for (int hour : new int[] {2, 3, 59, 60, 61, 62}) {
            FedClocks x = Say.house("r;r;ch0f99m60;ch0f99m60;ch0f99m60;ch0;ch0;cr1h0f10m" + (9 + hour) + ";pe1:1");
            Say.due("the tenth in HOUR " + hour, x.full(), hour <= 60 ? hour : -1);
            x.go(1);
            Say.due("an HOUR later", x.full(), hour <= 61 ? hour - 1 : -1);
        }
        Say.due("four at once", Say.house("r;ch0f99m60;ch0f99m60;ch0f99m60;ch0f99m60;ch0;ch0;pe0").full(), 1);
        Say.inPromise(24, "NONE: not within 60, no HOUSE.");
        Say.due("never", Say.house("r;ch0;pe0").full(), -1);
        Say.due("nine", Say.house("r;ch0f99m60;ch0f99m60;ch0f99m60;ch0;ch0;ch0;pe0").full(), -1);
        Say.due("without a HOUSE", new FedClocks().full(), -1);
        Say.inPromise(24, "(0: there are now.)");
        FedClocks x = Say.house("r;ch9f99m60;ch9f99m60;ch9f99m60;ch9f99m60;ch9;ch9;pe0");
        x.go(1);
        Say.due("now", x.full(), 0);
        x.go(60);
        Say.due("now, though none lives", x.full() * 100 + x.count(8), 0);
    }

    private static void kinds() {
        Say.inTerms(3, "KINDS: how many living ones of a KIND there are behind n HOURS.");
        Say.inPromise(25, "KINDS (n 0 .. 60).");
        FedClocks x = Say.house("r;ck0f60h1m99;ck1f60h1m99;ck1f61h1m99;ck3h0f99m60;ck3h0;pe0");
        int[][] want = {{1, 2, 0, 2}, {1, 2, 0, 2}, {1, 2, 0, 2}, {0, 1, 0, 2}};
        int[] hours = {0, 1, 59, 60};
        // the one born is of 3 and the lowest other's 0: 3
        for (int i = 0; i < 4; i++)
            for (int kind = 0; kind <= 3; kind++)
                Say.due("kinds(" + kind + ", " + hours[i] + ")", x.kinds(kind, hours[i]), want[i][kind] + (kind == 3 && i > 0 ? 1 : 0));
        x.go(60);
        Say.due("kinds(0, 0)", x.kinds(0, 0), 0);
        Say.due("kinds(1, 0)", x.kinds(1, 0) * 10 + x.kinds(1, 1), 10);
        Say.inPromise(25, "NONE: no HOUSE, out of bounds.");
        for (int kind : new int[] {-1, 4}) Say.due("kinds(" + kind + ", 0)", x.kinds(kind, 0), -1);
        for (int n : new int[] {-1, 61}) Say.due("kinds(0, " + n + ")", x.kinds(0, n), -1);
        for (int n : Say.FAR) {
            Say.due("kinds(" + n + ", 0)", x.kinds(n, 0), -1);
            Say.due("kinds(0, " + n + ")", x.kinds(0, n), -1);
        }
        for (int kind = -1; kind <= 4; kind++) Say.due("without a HOUSE", new FedClocks().kinds(kind, 0), -1);
    }

    private static void rota() {
        Say.inTerms(3, "ROTA for n (1 .. 12) HOURS: rows of ROOMS (digits, PERSON 0 the highest) by which, all SENT so, none STARVES and none goes WILD: how many, the i-th (rising).");
        Say.inPromise(26, "ROTA: how many (i NONE), the i-th.");
        // five ROOMS and six PERSONS: all rows will do
        FedClocks x = Say.house("r;r;r;r;r;ch0;pe0;pe0;pe0;pe0;pe0;pe0");
        Say.due("rota(12, -1)", x.rota(12, -1), 15625);
        int[][] ith = {{0, 0}, {1, 1}, {4, 4}, {5, 10}, {24, 44}, {25, 100}, {3125, 100000}, {6250 + 3 * 625 + 125 * 4 + 2, 234002}, {15624, 444444}, {15625, -1}};
        for (int[] i : ith) Say.due("rota(1, " + i[0] + ")", x.rota(1, i[0]), i[1]);
        Say.due("one ROOM, one PERSON", Say.house("r;ch0;pe0").rota(12, -1), 1);
        Say.due("it", Say.house("r;ch0;pe0").rota(12, 0), 0);
        // PERSON 0 the highest: each where it is wanted, 2 is BLIND
        x = Say.house("r;r;r;cr1f2h2;cr2f3h3;pe2;pe3;pb1");
        Say.due("rows", x.rota(12, -1), 3);
        for (int i = 0; i < 3; i++) Say.due("the row " + i, x.rota(12, i), 120 + i);
        // starving in the twelfth HOUR, or not within twelve
        for (int fat : new int[] {1, 2, 11, 12, 13})
            for (int n : new int[] {1, 2, 10, 11, 12}) {
                x = Say.house("r;r;cf" + fat + "h1;pe0");
                Say.due("rota(" + n + ", -1) of FAT " + fat, x.rota(n, -1), n >= fat ? 0 : 2);
                Say.due("rota(" + n + ", 1) of FAT " + fat, x.rota(n, 1), n >= fat ? -1 : 1);
            }
        // all SENT so: by their WAYS all would live
        x = Say.house("r;r;cf2h1;cr1f2h1;pe2:01");
        Say.due("by its WAY none starves", x.starves(60, 0), -1);
        Say.due("SENT to one ROOM it feeds one alone", x.rota(2, -1), 0);
        Say.due("nor can it do so alone", x.fewest(2), -1);
        // each of six PERSONS by EYES of its own: the last ones alone are enough
        x = Say.house("r;r;cr1f1h5;pe0;pe0;pe0;pe0;pe2;pe3");
        Say.due("both must be there", x.rota(12, -1), 16);
        Say.due("the first", x.rota(12, 0), 11);
        Say.due("the last", x.rota(12, 15), 111111);
        Say.due("those two", x.fewest(12), 48);
        // going WILD in the twelfth HOUR, or not within twelve
        for (int hour : new int[] {1, 2, 11, 12, 13})
            for (int n : new int[] {1, 2, 10, 11, 12}) {
                x = Say.house("r;r;cr1h0f10m" + (9 + hour) + ";pe1");
                Say.due("rota(" + n + ", -1) of WILD in " + hour, x.rota(n, -1), n >= hour ? 1 : 2);
            }
        // SENT they are where they are SENT, whatever their WAY and where they were SENT
        x = Say.house("r;r;cr1f1h1;pe1:0");
        x.send(0, 0);
        Say.due("it is SENT to 1", x.rota(12, 0), 1);
        Say.due("and that alone", x.rota(12, -1), 1);
        Say.inPromise(26, "NONE: no such one, no HOUSE, out of bounds.");
        Say.due("no such one", x.rota(12, 1), -1);
        Say.due("no such one", x.rota(12, -2), -1);
        for (int n : new int[] {-1, 0, 13}) {
            Say.due("rota(" + n + ", -1)", x.rota(n, -1), -1);
            Say.due("rota(" + n + ", 0)", x.rota(n, 0), -1);
        }
        for (int n : Say.FAR) {
            Say.due("rota(" + n + ", -1)", x.rota(n, -1), -1);
            Say.due("rota(12, " + n + ")", x.rota(12, n), -1);
        }
        for (int n : new int[] {0, 1, 12, 13}) Say.due("without a HOUSE", new FedClocks().rota(n, -1), -1);
        Say.due("none: how many", Say.house("r;cf1h1;pe0").rota(1, -1), 0);
        Say.due("none: the first", Say.house("r;cf1h1;pe0").rota(1, 0), -1);
    }

    private static void fewest() {
        Say.inTerms(3, "FEWEST: the fewest PERSONS (bits; of several the least) for whom there is a row of ROOMS likewise, all others as if BLIND.");
        Say.inPromise(27, "FEWEST, as bits.");
        // EYES 1 each, so many as the HUNGER is: the least of them
        for (int hunger = 0; hunger <= 6; hunger++) {
            FedClocks x = Say.house("r;cf1h" + hunger + ";pe1;pe1;pe1;pe1;pe1;pe1");
            Say.due("as many as HUNGER " + hunger, x.fewest(12), (1 << hunger) - 1);
        }
        for (int p = 0; p < 6; p++) {
            StringBuilder t = new StringBuilder("r;r;r;cr2f1h1");
            for (int q = 0; q < 6; q++) t.append(q == p ? ";pe1" : ";pe0");
            Say.due("PERSON " + p + " alone", Say.house(t.toString()).fewest(12), 1 << p);
        }
        FedClocks x = Say.house("r;cf1h2;pe1;pe1;pe2;pe1;pe2");
        Say.due("one, not two; the least of two such", x.fewest(12), 4);
        x.blind(2, true);
        Say.due("a BLIND one is no use", x.fewest(12), 16);
        x.blind(4, true);
        Say.due("two, then", x.fewest(12), 3);
        x.blind(0, true);
        Say.due("other two", x.fewest(12), 10);
        x.blind(1, true);
        Say.due("one is not enough", x.fewest(12), -1);
        // in two ROOMS at once
        x = Say.house("r;r;r;cr1f1h1;cr2f1h1;pe1;pe1;pe1");
        Say.due("one each", x.fewest(12), 3);
        // all others as if BLIND, not where they go: the second would make it WILD
        x = Say.house("r;cf10h1m11;pe1;pe9");
        Say.due("the first alone", x.fewest(12), 1);
        // nobody, as long as it lasts; the twelfth HOUR counts
        for (int fat : new int[] {1, 2, 11, 12, 13})
            for (int n : new int[] {1, 2, 10, 11, 12})
                Say.due("fewest(" + n + ") of FAT " + fat, Say.house("r;r;cr1f" + fat + "h1;pe0;pe1").fewest(n), n >= fat ? 2 : 0);
        // one has to look, by which it goes WILD in such an HOUR
        for (int hour : new int[] {1, 2, 11, 12, 13})
            for (int n : new int[] {1, 2, 10, 11, 12})
                Say.due("fewest(" + n + ") of WILD in " + hour, Say.house("r;cf1h1m" + hour + ";pe2").fewest(n), n >= hour ? -1 : 1);
        x = Say.house("r;r;cf12h1;cr1h0f90m99;pe1;pe1");
        Say.due("one of 12 HOURS", x.fewest(11) * 10 + x.fewest(12), 1);
        Say.inPromise(27, "NONE: there are none, no HOUSE, out of bounds (n 1 .. 12).");
        Say.due("none", Say.house("r;cf1h9;pe8").fewest(1), -1);
        for (int n : new int[] {-1, 0, 13}) Say.due("fewest(" + n + ")", x.fewest(n), -1);
        for (int n : Say.FAR) Say.due("fewest(" + n + ")", x.fewest(n), -1);
        for (int n : new int[] {0, 1, 12, 13}) Say.due("without a HOUSE", new FedClocks().fewest(n), -1);
    }

    private static void best() {
        Say.inTerms(3, "HANG for n (1 .. 24) HOURS: of all ways to hang living CLOCKS in ROOMS (six living ones at most) that by which the most CLOCKS live behind them (of several the least, as digits by numbers of living ones, the lowest the highest): it; how many.");
        Say.inPromise(28, "HANG: digits (0), how many (1).");
        // 0 and 3 die; of 1, 2 and 4 the middle one wants to be looked at in ROOM 2
        FedClocks x = Say.house("r;r;r;cf1h9;ch0f50m99;cf20h2m99;cf1h9;ch0f60m99;pe2b1:2");
        x.go(1);
        x.blind(0, false);
        Say.due("best(8, 0): all live whatever", x.best(8, 0), 0);
        Say.due("best(8, 1)", x.best(8, 1), 3);
        Say.due("best(9, 0)", x.best(9, 0), 20);
        Say.due("best(9, 1)", x.best(9, 1), 3);
        Say.due("best(19, 0)", x.best(19, 0) * 10 + x.best(19, 1), 203);
        // from 20 on the last one there would go WILD and bear one: as many, and less
        Say.due("best(20, 0)", x.best(20, 0) * 10 + x.best(20, 1), 23);
        // the 24th HOUR counts
        for (int fat : new int[] {1, 2, 23, 24, 25})
            for (int n : new int[] {1, 2, 22, 23, 24}) {
                x = Say.house("r;r;cf" + fat + "h1;pe1:1");
                Say.due("best(" + n + ", 0) of FAT " + fat, x.best(n, 0), n >= fat ? 1 : 0);
                Say.due("best(" + n + ", 1) of FAT " + fat, x.best(n, 1), 1);
                x = Say.house("r;r;cf" + fat + "h1;pe0");
                Say.due("none lives then: the least", x.best(n, 0), 0);
                Say.due("how many", x.best(n, 1), n >= fat ? 0 : 1);
            }
        // six of them in five ROOMS, each with one that looks; the sixth needs none
        x = Say.house("r;r;r;r;r;cf1h1;cf1h1;cf1h1;cf1h1;cf1h1;ch0f50m99;pe1:4;pe1:3;pe1:2;pe1:1;pe1:0");
        Say.due("six: the least of all ways", x.best(3, 0), 12340);
        Say.due("how many", x.best(3, 1), 6);
        x = Say.house("r;r;r;r;r;ch0f50m99;cf1h1;cf1h1;cf1h1;cf1h1;cf1h1;pe1:4;pe1:3;pe1:2;pe1:1;pe1:0");
        Say.due("the lowest is the highest digit", x.best(3, 0), 1234);
        x = Say.house("r;r;r;r;r;cf1h1;ch0;ch0;ch0;ch0;ch0;pe1:4");
        Say.due("the first in the last ROOM", x.best(3, 0), 400000);
        // those that are born count as well
        x = Say.house("r;r;ch0f10m18;ch0f30m33;pe9:1");
        Say.due("born by being looked at", x.best(1, 0) * 10 + x.best(1, 1), 13);
        // none lives then: the least, whatever was asked ahead of it
        x = Say.house("r;r;cf1h1;pe1:1");
        Say.due("in the second ROOM", x.best(1, 0) * 10 + x.best(1, 1), 11);
        x.blind(0, true);
        Say.due("none lives", x.best(1, 0) * 10 + x.best(1, 1), 0);
        // HIDDEN is told with seven alone; one ROOM, one way
        x = Say.house("r;ch0f90m50;ch0;ch0;ch0;ch0;ch0;pe0");
        Say.due("six live", x.best(1, 0) * 10 + x.best(1, 1), 7);
        x.go(1);
        Say.inPromise(28, "HIDDEN: more than six live.");
        Say.due("seven live", x.best(1, 0), -1000000);
        Say.due("seven live", x.best(24, 1), -1000000);
        x = Say.house("r;cf1;ch0f90m50;ch0;ch0;ch0;ch0;pe0");
        x.go(1);
        Say.due("seven CLOCKS, six of them living", x.best(1, 1), 6);
        Say.inPromise(28, "NONE: none lives, no HOUSE, out of bounds, no such what.");
        for (int n : new int[] {-1, 0, 25}) {
            Say.due("best(" + n + ", 0)", x.best(n, 0), -1);
            Say.due("best(" + n + ", 1)", x.best(n, 1), -1);
        }
        for (int what : new int[] {-1, 2}) Say.due("best(1, " + what + ")", x.best(1, what), -1);
        for (int n : Say.FAR) {
            Say.due("best(" + n + ", 0)", x.best(n, 0), -1);
            Say.due("best(1, " + n + ")", x.best(1, n), -1);
        }
        for (int what = -1; what <= 2; what++) Say.due("without a HOUSE", new FedClocks().best(1, what), -1);
        x = Say.house("r;cf1;cf1;pe0");
        x.go(1);
        Say.due("none lives", x.best(1, 0), -1);
        Say.due("none lives", x.best(1, 1), -1);
    }

    private static void shows() {
        Say.inTerms(3, "SHOWS of a CLOCK: 60 times its HOURS (as many as it lived as they began) less what it LOST, in minutes.");
        Say.inPromise(29, "SHOWS.");
        FedClocks x = Say.house("r;ch0f99m99;cf3h1;ch0f99m90;pe0");
        Say.due("at first", x.shows(0) + x.shows(1) + x.shows(2), 0);
        int[] lives = {60, 120, 180, 180, 180};
        for (int hour = 1; hour <= 5; hour++) {
            x.go(1);
            Say.due("shows(0)", x.shows(0), 51 * hour);
            Say.due("shows(1): the HOUR in which it starved as well", x.shows(1), lives[hour - 1]);
            Say.due("shows(2)", x.shows(2), 51 + 56 * (hour - 1));
            Say.due("shows(3): born", x.shows(3), 56 * (hour - 1));
        }
        x.go(60);
        Say.due("HOUR 65", x.shows(0), 65 * 51);
        Say.inPromise(29, "HIDDEN: no such CLOCK.");
        for (int c : new int[] {-1, 4, 10}) Say.due("shows(" + c + ")", x.shows(c), -1000000);
        for (int c : Say.FAR) Say.due("shows(" + c + ")", x.shows(c), -1000000);
        Say.due("without a HOUSE", new FedClocks().shows(0), -1000000);
    }

    private static void near() {
        Say.inTerms(3, "NEAR: living CLOCKS (bits) that LOST no more than t.");
        Say.inPromise(30, "NEAR, as bits.");
        FedClocks x = Say.house("r;ch0f30m99;cf1;ch0f99m99;ch0f9;ch0f39;ch0f20;pe0");
        Say.due("near(0) at first", x.near(0), 63);
        x.go(1);
        int[] want = {8, 8, 8 + 32, 8 + 32 + 1 + 16, 8 + 32 + 1 + 16};
        for (int t = 0; t < want.length; t++) Say.due("near(" + t + ")", x.near(t), want[t]);
        Say.due("near(8)", x.near(8), 57);
        Say.due("near(9)", x.near(9), 61);
        Say.due("near(10)", x.near(10), 61);
        Say.due("near of the most", x.near(Integer.MAX_VALUE), 61);
        Say.inPromise(30, "NONE: no HOUSE, below 0.");
        Say.due("near(-1)", x.near(-1), -1);
        Say.due("near(-2)", x.near(-2), -1);
        Say.due("near of the least", x.near(Integer.MIN_VALUE), -1);
        for (int t : new int[] {-1, 0, 1}) Say.due("without a HOUSE", new FedClocks().near(t), -1);
        x = Say.house("r;cf1;pe0");
        x.go(1);
        Say.due("none lives", x.near(0), 0);
        x = Say.house("r;ch0f99m30;ch0f99m30;ch0f99m30;ch0f99m30;ch0f99m30;ch0f60m99;pe0");
        x.go(1);
        Say.due("ten of them", x.near(99), 1023);
        Say.due("those born", x.near(0), 1023 - 63);
    }

    private static void middle() {
        Say.inTerms(3, "MIDDLE: of what living CLOCKS LOST, sorted, the middle one (the lower of two).");
        Say.inPromise(31, "MIDDLE.");
        // what they LOST in one HOUR: 5, 1, 9, 3, 7, 2
        String[] c = {";ch0f50m99", ";ch0f10m99", ";ch0f90m99", ";ch0f30m99", ";ch0f70m99", ";ch0f20m99"};
        int[] want = {5, 1, 5, 3, 5, 3};
        String t = "r;pe0";
        for (int n = 0; n < 6; n++) {
            t += c[n];
            FedClocks x = Say.house(t);
            Say.due("nothing is LOST at first", x.middle(), 0);
            x.go(1);
            Say.due("of " + (n + 1), x.middle(), want[n]);
        }
        FedClocks x = Say.house("r;pe0;ch0f50m99;cf1;ch0f90m99;ch0f30m99;cf1;ch0f50m99");
        x.go(1);
        Say.due("of living ones: 3, 5, 5, 9", x.middle(), 5);
        x = Say.house("r;pe0;ch0f20m99;ch0f20m99;ch0f80m99;ch0f80m99;ch0f80m99");
        x.go(1);
        Say.due("2, 2, 8, 8, 8", x.middle(), 8);
        x = Say.house("r;pe0;ch0f80m99;ch0f80m99;ch0f20m99;ch0f20m99");
        x.go(1);
        Say.due("2, 2, 8, 8", x.middle(), 2);
        x = Say.house("r;ch0f90m60;ch0f80m60;ch0f70m60;ch0f70m60;ch0f60m60;ch0f50m60;pe0");
        x.go(1);
        Say.due("four born: 0, 0, 0, 0, 5, 6, ..", x.middle(), 5);
        x.go(1);
        // 4, 4, 3, 3 of those born; 13, 12, 10, 10, 12, 10 of the others
        Say.due("3, 3, 4, 4, 10, ..", x.middle(), 10);
        Say.inPromise(31, "NONE: none lives, no HOUSE.");
        Say.due("without a HOUSE", new FedClocks().middle(), -1);
        x = Say.house("r;cf1;cf1;pe0");
        x.go(1);
        Say.due("none lives", x.middle(), -1);
    }

    private static void ring() {
        Say.inTerms(3, "RING: from a CLOCK to whom it FACES, and so on (living or not): how many steps till it is back (NONE: never).");
        Say.inPromise(32, "RING.");
        FedClocks x = Say.house("r;ch0f99m30z1;ch0f99m30z0;ch0f99m30;ch0f99m30;ch0f99m30;cf1;pe0");
        x.go(1);
        Say.due("two", x.ring(0) * 10 + x.ring(1), 22);
        // one more in it each time; the one that died can be FACED but can't turn, so it is the last
        int[] order = {0, 1, 2, 3, 4, 6, 7, 8, 9};
        for (int n = 2; n <= 9; n++) {
            for (int i = 0; i < n; i++) x.face(order[i], order[(i + 1) % n]);
            for (int i = 0; i < n; i++) Say.due("ring(" + order[i] + ") of " + n, x.ring(order[i]), n);
            if (n < 9) Say.due("one that is not in it", x.ring(order[n]), -1);
        }
        Say.inPromise(32, "NONE: never, no such CLOCK.");
        x.face(3, 1);
        // 0, 1, 2, 3, 1: the first is never back; nor are those that lead there
        Say.due("ring(0): never", x.ring(0), -1);
        Say.due("ring(1)", x.ring(1), 3);
        Say.due("ring(9): never", x.ring(9), -1);
        x.face(3, -1);
        Say.due("ring(1): nobody at its end", x.ring(1), -1);
        Say.due("ring(3): nobody", x.ring(3), -1);
        for (int c : new int[] {-1, 10, 11}) Say.due("ring(" + c + ")", x.ring(c), -1);
        for (int c : Say.FAR) Say.due("ring(" + c + ")", x.ring(c), -1);
        Say.due("without a HOUSE", new FedClocks().ring(0), -1);
        // living or not
        x = Say.house("r;cf1z1;cf1z2;cf9z0;cf1z0;pe0");
        x.go(1);
        Say.due("two of three died", x.ring(0) * 100 + x.ring(1) * 10 + x.ring(2), 333);
        Say.due("one that died, outside", x.ring(3), -1);
        x = Say.house("r;cz1;cz2;cz3;cz4;cz5;cz0;p");
        for (int c = 0; c < 6; c++) Say.due("all six", x.ring(c), 6);
        // all ten
        x = Say.house("r;ch0f99m30;ch0f99m30;ch0f99m30;ch0f99m30;ch0f99m30;ch0f99m30;pe0");
        x.go(1);
        for (int c = 0; c < 10; c++) x.face(c, (c + 3) % 10);
        for (int c = 0; c < 10; c++) Say.due("all ten", x.ring(c), 10);
    }

    private static void still() {
        Say.inTerms(3, "STILL: living CLOCKS (bits) that FACE a living one by which they are FACED.");
        Say.inPromise(33, "STILL, as bits.");
        FedClocks x = Say.house("r;r;cz5;cz2;cr1z1;cz4f1;cz3;cz0;pe0");
        Say.due("three twos", x.still(), 63);
        x.go(1);
        Say.due("one died", x.still(), 1 + 2 + 4 + 32);
        x.face(0, 1);
        Say.due("one FACES away", x.still(), 6);
        x.face(2, -1);
        Say.due("none", x.still(), 0);
        x.face(2, 5);
        Say.due("a ring of four is none", x.still(), 0);
        Say.inPromise(33, "NONE: no HOUSE.");
        Say.due("without a HOUSE", new FedClocks().still(), -1);
    }

    private static void deaths() {
        Say.inTerms(3, "DEATHS: of two that FACE one another (both living): in how many HOURS the first of them STARVES, if nothing is eaten (HUNGER 0: never).");
        Say.inPromise(34, "DEATHS of a CLOCK and whom it FACES.");
        int[] fats = {1, 2, 9, 10, 19, 40, 98, 99};
        for (int fat : fats)
            for (int hunger = 0; hunger <= 9; hunger++) {
                int in = hunger == 0 ? -1 : (fat + hunger - 1) / hunger;
                FedClocks x = Say.house("r;cm99z1h" + hunger + "f" + fat + ";cm99z0h0f5;pe9");
                Say.due("deaths(0): FAT " + fat + ", HUNGER " + hunger, x.deaths(0), in);
                Say.due("deaths(1)", x.deaths(1), in);
                x = Say.house("r;cm99z1h" + hunger + "f" + fat + ";cm99z0h2f20;pe9");
                Say.due("deaths(0): or in 10", x.deaths(0), in == -1 ? 10 : Math.min(10, in));
                Say.due("deaths(1): or in 10", x.deaths(1), in == -1 ? 10 : Math.min(10, in));
                // it is so, if nothing else is there
                if (in != -1 && in <= 60) Say.due("starves(60, 1)", x.starves(60, 1), Math.min(10, in));
            }
        FedClocks z = Say.house("r;cf1;c;cf4h2;cf40h3z5;c;cf99h9z3m99;pe0");
        Say.due("deaths(3): 14 and 11", z.deaths(3), 11);
        Say.due("deaths(5): 11 and 14", z.deaths(5), 11);
        Say.due("deaths(2)", z.deaths(2), -1);
        Say.inPromise(34, "NONE: never, they do not FACE one another, no such living ones.");
        Say.due("never", Say.house("r;cz1h0;cz0h0;p").deaths(1), -1);
        FedClocks x = Say.house("r;cz1h0f9;cz0h5f9;cz0;c;p");
        Say.due("one of them never", x.deaths(0) * 10 + x.deaths(1), 22);
        Say.due("it is not FACED", x.deaths(2), -1);
        Say.due("it FACES nobody", x.deaths(3), -1);
        for (int c : new int[] {-1, 4, 10}) Say.due("deaths(" + c + ")", x.deaths(c), -1);
        for (int c : Say.FAR) Say.due("deaths(" + c + ")", x.deaths(c), -1);
        x.go(1);
        Say.due("an HOUR later", x.deaths(0), 1);
        x.go(1);
        Say.due("one died", x.deaths(0), -1);
        Say.due("it died", x.deaths(1), -1);
        Say.due("without a HOUSE", new FedClocks().deaths(0), -1);
    }

    private static void hear() {
        Say.inTerms(3, "HEARD (6 at most): in the j-th HOUR (1 .. 6) from when it is asked so many strikes in all.");
        Say.inPromise(35, "HEARD: how many there are.");
        FedClocks x = Say.house("r;c;p");
        int[][] heard = {{1, 0}, {6, 999}, {2, 998}, {5, 1}, {1, 0}, {6, 0}};
        for (int i = 0; i < 6; i++) {
            Say.due("hear(" + heard[i][0] + ", " + heard[i][1] + ")", x.hear(heard[i][0], heard[i][1]), i + 1);
            Say.due("count(9)", x.count(9), i + 1);
        }
        // each j: strikes in that HOUR alone, two CLOCKS in all
        for (int j = 1; j <= 6; j++)
            for (int hour = 1; hour <= 6; hour++) {
                String way = "111111".substring(0, hour - 1) + "0" + "111111".substring(hour);
                x = Say.house("r;r;ct1h0;pe1:" + way + ";pe2:" + way);
                x.hear(j, 3);
                Say.due("three strikes in HOUR " + hour + ", HEARD in " + j, x.thief(1, 1, -1), j == hour ? j == 1 ? 1 : 2 : 0);
            }
        // from when it is asked, not from when it was HEARD
        x = Say.house("r;r;ct1h0;pe1:011111;pb1");
        x.hear(1, 1);
        Say.due("in the first HOUR", x.thief(1, 1, -1), 2);
        x.go(1);
        Say.due("in the next one it is not so", x.thief(1, 1, -1), 0);
        x.go(5);
        Say.due("in the seventh it is again", x.thief(1, 1, -1), 2);
        Say.inPromise(35, "NONE: no HOUSE, out of bounds (hour 1 .. 6, strikes 0 .. 999), there are six.");
        for (int hour : new int[] {-1, 0, 7}) Say.due("hear(" + hour + ", 0)", x.hear(hour, 0), -1);
        for (int strikes : new int[] {-1, 1000}) Say.due("hear(1, " + strikes + ")", x.hear(1, strikes), -1);
        for (int n : Say.FAR) {
            Say.due("hear(" + n + ", 0)", x.hear(n, 0), -1);
            Say.due("hear(1, " + n + ")", x.hear(1, n), -1);
        }
        Say.due("count(9)", x.count(9), 1);
        for (int i = 2; i <= 6; i++) Say.due("hear(1, 1)", x.hear(1, 1), i);
        Say.due("there are six", x.hear(1, 1), -1);
        Say.due("count(9)", x.count(9), 6);
        Say.due("without a HOUSE", new FedClocks().hear(1, 0), -1);
    }

    private static void thief() {
        Say.inTerms(3, "THIEF: a PERSON whose ROOMS in the first n (1 .. 4) HOURS are not known (digits, the first HOUR's the highest; behind them it is SENT as it is now, or goes its WAY, or stays): all rows by which what is HEARD is so: how many, the i-th (rising).");
        Say.inPromise(36, "THIEF: how many (i NONE), the i-th.");
        FedClocks x = Say.house("r;r;r;r;r;ch0t1;pe1;p;p;p;p;pe0");
        int[] rows = {5, 25, 125, 625};
        for (int n = 1; n <= 4; n++) {
            Say.due("nothing is HEARD", x.thief(0, n, -1), rows[n - 1]);
            Say.due("the first", x.thief(5, n, 0), 0);
            Say.due("the last", x.thief(5, n, rows[n - 1] - 1), 4444 % (int) Math.pow(10, n));
            Say.due("no such one", x.thief(5, n, rows[n - 1]), -1);
        }
        Say.due("the 7th", x.thief(0, 4, 7), 12);
        Say.due("the 333rd", x.thief(0, 4, 333), 2313);
        // the first HOUR's the highest
        x = Say.house("r;r;ch0t1;pe1");
        int[] strikes = {1, 0, 0, 1};
        for (int j = 1; j <= 4; j++) x.hear(j, strikes[j - 1]);
        Say.due("that row alone", x.thief(0, 4, -1) * 10000 + x.thief(0, 4, 0), 10110);
        Say.due("in three HOURS, and it stays behind them", x.thief(0, 3, -1), 0);
        x.send(0, 0);
        Say.due("in three HOURS, and it is SENT to 0 behind them", x.thief(0, 3, -1) * 1000 + x.thief(0, 3, 0), 1011);
        x.send(0, 1);
        Say.due("it is SENT to 1 behind them", x.thief(0, 3, -1), 0);
        FedClocks y = Say.house("r;r;r;ch0t1;pe0;pe1;pe0");
        for (int j = 1; j <= 4; j++) y.hear(j, strikes[j - 1]);
        y.send(1, 0);
        Say.due("the second PERSON, SENT to 0 behind them", y.thief(1, 3, -1) * 1000 + y.thief(1, 3, 0), 4011);
        y.send(1, 2);
        Say.due("SENT to 2 behind them", y.thief(1, 3, -1), 0);
        Say.due("the others", y.thief(0, 3, -1) + y.thief(2, 3, -1), 0);
        x = Say.house("r;r;ch0t1;pe1:1110");
        for (int j = 1; j <= 4; j++) x.hear(j, strikes[j - 1]);
        Say.due("it goes its WAY behind them", x.thief(0, 3, -1) * 1000 + x.thief(0, 3, 0), 1011);
        Say.due("its WAY by the HOUR", x.thief(0, 1, -1) * 10 + x.thief(0, 1, 0), 10);
        x.go(1);
        Say.due("an HOUR on the WAY is another", x.thief(0, 3, -1), 0);
        // it stays where its last digit was
        x = Say.house("r;r;r;ch0t1;pe1");
        x.hear(3, 1);
        x.hear(6, 1);
        Say.due("it stays in 0", x.thief(0, 2, -1), 3);
        Say.due("rising", x.thief(0, 2, 0) + 100 * x.thief(0, 2, 1) + 10000 * x.thief(0, 2, 2), 201000);
        // two that are HEARD in one HOUR must both be so
        x.hear(3, 1);
        Say.due("the same again", x.thief(0, 2, -1), 3);
        x.hear(3, 0);
        Say.due("not so", x.thief(0, 2, -1), 0);
        Say.due("no such one", x.thief(0, 2, 0), -1);
        Say.inPromise(36, "NONE: no such ones, no such i, out of bounds.");
        x = Say.house("r;r;ch0t1;pe1;pe0");
        for (int p : new int[] {-1, 2, 6}) Say.due("thief(" + p + ", 1, -1)", x.thief(p, 1, -1), -1);
        for (int n : new int[] {-1, 0, 5}) Say.due("thief(0, " + n + ", -1)", x.thief(0, n, -1), -1);
        for (int i : new int[] {-2, 2, 3}) Say.due("thief(0, 1, " + i + ")", x.thief(0, 1, i), -1);
        for (int n : Say.FAR) {
            Say.due("thief(" + n + ", 1, -1)", x.thief(n, 1, -1), -1);
            Say.due("thief(0, " + n + ", -1)", x.thief(0, n, -1), -1);
            Say.due("thief(0, 1, " + n + ")", x.thief(0, 1, n), -1);
        }
        Say.due("without a HOUSE", new FedClocks().thief(0, 1, -1), -1);
    }

    private static void lures() {
        Say.inTerms(3, "LURES: for two CLOCKS each owner chooses a LURE (0 .. 3); GAIN: 10 times what its CLOCK eats in n (1 .. 12) HOURS, less PRICE (0 .. 99) times its LURE; RESTS: 10 times the one's and the other's, by which neither has more by another LURE alone: how many, the i-th.");
        Say.inPromise(37, "LURES: how many RESTS (i NONE), the i-th.");
        // WORTH 20 more for the other: LURE 2 more than its one is what the one needs, PRICE 55 each, for 10 an HOUR
        FedClocks x = Say.house("r;ch0m99f50;ch0m99f50k1;pe1", "y:k*20");
        Say.due("110 is not more than 110", x.lures(0, 1, 11, 55, -1) * 10 + x.lures(0, 1, 11, 55, 0), 10);
        Say.due("120 is more than 110", x.lures(0, 1, 12, 55, -1), 0);
        Say.due("10 is not more than 10", x.lures(0, 1, 1, 5, -1) * 10 + x.lures(0, 1, 1, 5, 0), 10);
        Say.due("10 is more than 8", x.lures(0, 1, 1, 4, -1), 0);
        // the same with the other one first: 10 times its LURE is what comes first
        Say.due("the other first", x.lures(1, 0, 11, 55, -1) * 10 + x.lures(1, 0, 11, 55, 0), 10);
        Say.due("the other first", x.lures(1, 0, 12, 55, -1), 0);
        // PRICE 0: the other has it as long as its LURE is 1 less or more; it rests where the one can't have it
        int[] free = {2, 3, 12, 13, 22, 23, 32, 33};
        int[] turned = {20, 21, 22, 23, 30, 31, 32, 33};
        Say.due("PRICE 0", x.lures(0, 1, 12, 0, -1), 8);
        for (int i = 0; i < 8; i++) {
            Say.due("the RESTS rising", x.lures(0, 1, 12, 0, i), free[i]);
            Say.due("the RESTS rising, the other first", x.lures(1, 0, 12, 0, i), turned[i]);
        }
        Say.due("no ninth", x.lures(0, 1, 12, 0, 8), -1);
        // what is eaten and PRICE: 10 times 1 against 10, against 9
        x = Say.house("r;ch0m99f50;ch0m99f50k1;pe1", "y:k*10");
        Say.due("PRICE 10: none is worth it, nor is one too much", x.lures(0, 1, 1, 10, -1), 2);
        Say.due("0 and 0", x.lures(0, 1, 1, 10, 0), 0);
        Say.due("1 and 0", x.lures(0, 1, 1, 10, 1), 10);
        Say.due("PRICE 9: one LURE is worth it", x.lures(0, 1, 1, 9, 0) == 0, false);
        Say.due("PRICE 99 in 9 HOURS: 90 is less", x.lures(0, 1, 9, 99, 0), 0);
        Say.due("PRICE 99 in 10 HOURS: 100 is more", x.lures(0, 1, 10, 99, 0) == 0, false);
        // in two ROOMS LURES are no use: all sixteen without a PRICE, none of them with one
        x = Say.house("r;r;ch0m99;cr1h0m99;pe1;pe1:1");
        Say.due("all", x.lures(0, 1, 12, 0, -1), 16);
        for (int a = 0; a < 4; a++)
            for (int b = 0; b < 4; b++) Say.due("the RESTS", x.lures(0, 1, 1, 0, 4 * a + b), 10 * a + b);
        Say.due("no seventeenth", x.lures(0, 1, 1, 0, 16), -1);
        Say.due("one with PRICE 1", x.lures(0, 1, 1, 1, -1) * 10 + x.lures(0, 1, 1, 1, 0), 10);
        // what it eats in the HOUR in which it starves is eaten
        x = Say.house("r;cf1h9;cf1h9k1;pe1", "y:k*10");
        Say.due("both starve in the first HOUR, PRICE 9", x.lures(0, 1, 12, 9, 0) == 0, false);
        Say.due("PRICE 10", x.lures(0, 1, 12, 10, 0), 0);
        Say.inPromise(37, "NONE: no such living ones, alike, no such i, out of bounds.");
        x = Say.house("r;cf1;ch0;ch0;pe0");
        Say.due("it lives", x.lures(0, 1, 1, 0, -1), 16);
        x.go(1);
        Say.due("the one died", x.lures(0, 1, 1, 0, -1), -1);
        Say.due("the other died", x.lures(1, 0, 1, 0, -1), -1);
        Say.due("alike", x.lures(1, 1, 1, 0, -1), -1);
        for (int c : new int[] {-1, 3, 10}) {
            Say.due("lures(" + c + ", 1, ..)", x.lures(c, 1, 1, 0, -1), -1);
            Say.due("lures(1, " + c + ", ..)", x.lures(1, c, 1, 0, -1), -1);
        }
        for (int n : new int[] {-1, 0, 13}) Say.due("n " + n, x.lures(1, 2, n, 0, -1), -1);
        for (int price : new int[] {-1, 100}) Say.due("PRICE " + price, x.lures(1, 2, 1, price, -1), -1);
        for (int i : new int[] {-2, 16}) Say.due("i " + i, x.lures(1, 2, 1, 0, i), -1);
        for (int n : Say.FAR) {
            Say.due("the one " + n, x.lures(n, 1, 1, 0, -1), -1);
            Say.due("the other " + n, x.lures(1, n, 1, 0, -1), -1);
            Say.due("n " + n, x.lures(1, 2, n, 0, -1), -1);
            Say.due("PRICE " + n, x.lures(1, 2, 1, n, -1), -1);
            Say.due("i " + n, x.lures(1, 2, 1, 0, n), -1);
        }
        Say.due("without a HOUSE", new FedClocks().lures(0, 1, 1, 0, -1), -1);
    }

    private static void later() {
        Say.inTerms(3, "LATER: how many HOURS later (0 .. 60; 60: behind all) the first STARVES, if EYES of a PERSON were 1 more: the HOUR of FIRST within 60 (61: none) so less that without (below 0: sooner).");
        Say.inPromise(38, "LATER.");
        // one HOUR less by EYES 1 more: never, and in that HOUR
        for (int fat : new int[] {1, 2, 30, 59, 60, 61}) {
            FedClocks x = Say.house("r;cm99h1f" + fat + ";pe0;pb1");
            Say.due("FAT " + fat + ": behind all", x.later(0), fat <= 60 ? 61 - fat : 0);
            Say.due("of a BLIND one", x.later(1), 0);
        }
        // 12 by 3 in the fourth HOUR, by 2 in the sixth, by 1 in the twelfth
        FedClocks x = Say.house("r;r;cf12h3;ch0f99m99;pe0:0;pe1:0;pe9b1;pe0:1");
        Say.due("from the sixth to the twelfth", x.later(0), 6);
        Say.due("the second one likewise", x.later(1), 6);
        Say.due("one in another ROOM", x.later(3), 0);
        // EYES 9 can be 10
        x = Say.house("r;cf1h9;pe8");
        Say.due("never by 9", x.later(0), 60);
        x = Say.house("r;r;cr1h0;pe9");
        Say.due("never anyway", x.later(0), 0);
        // by 10 it goes WILD in the 11th HOUR, and the one born starves in the 16th
        x = Say.house("r;cf30h9;ch0f90m99;pe9");
        Say.due("sooner", x.later(0), 16 - 61);
        // sooner: with 6 it goes WILD at once, and the second of two starves in the second HOUR
        x = Say.house("r;cf9h5m9;pe5");
        Say.due("never without", x.starves(60, 1), -1);
        Say.due("sooner", x.later(0), 2 - 61);
        Say.due("EYES are as they were", x.person(0, 0), 5);
        Say.inPromise(38, "HIDDEN: no such PERSON.");
        for (int p : new int[] {-1, 1, 6}) Say.due("later(" + p + ")", x.later(p), -1000000);
        for (int p : Say.FAR) Say.due("later(" + p + ")", x.later(p), -1000000);
        Say.due("without a HOUSE", new FedClocks().later(0), -1000000);
    }

    private static void spared() {
        Say.inTerms(3, "SPARED: the CLOCK that, PAINTED, leaves the most living behind n (1 .. 24) HOURS (of several the lowest living one); how many.");
        Say.inPromise(39, "SPARED: which (0), how many live (1).");
        for (int fat : new int[] {1, 2, 23, 24, 25})
            for (int n : new int[] {1, 2, 22, 23, 24}) {
                FedClocks x = Say.house("r;cf" + fat + "h1;pe1");
                Say.due("spared(" + n + ", 0) of FAT " + fat, x.spared(n, 0), 0);
                Say.due("spared(" + n + ", 1) of FAT " + fat, x.spared(n, 1), n >= fat ? 0 : 1);
                x = Say.house("r;r;cf" + fat + "h1;cr1h0;pe1");
                Say.due("spared(" + n + ", 0) of two, FAT " + fat, x.spared(n, 0), n >= fat ? 1 : 0);
                Say.due("spared(" + n + ", 1) of two, FAT " + fat, x.spared(n, 1), 2);
            }
        // each in its ROOM is fed; the last alone needs nothing
        FedClocks x = Say.house("r;r;r;cf1h1;cr1f1h1;cr2h0;pe1;pe1:1;pe1:2");
        Say.due("the third", x.spared(3, 0) * 10 + x.spared(3, 1), 23);
        x.paint(1, true);
        Say.due("with one PAINTED already that starves", x.spared(3, 0) * 10 + x.spared(3, 1), 12);
        x = Say.house("r;cf1;ch0;ch0;pe0");
        x.go(1);
        Say.due("the lowest living one", x.spared(24, 0) * 10 + x.spared(24, 1), 12);
        // one that goes WILD otherwise: PAINTED it bears none
        x = Say.house("r;r;ch0f10m10;cr1h0f10;pe1");
        Say.due("the second, so that the first bears one", x.spared(1, 0) * 10 + x.spared(1, 1), 13);
        // none lives then, whichever: the lowest, whatever was asked ahead of it
        x = Say.house("r;cf5h1;cf3h1;pe0");
        Say.due("the second starves first", x.starves(60, 0), 1);
        Say.due("none lives", x.spared(24, 0) * 10 + x.spared(24, 1), 0);
        Say.inPromise(39, "NONE: none lives, no HOUSE, out of bounds, no such what.");
        for (int n : new int[] {-1, 0, 25}) {
            Say.due("spared(" + n + ", 0)", x.spared(n, 0), -1);
            Say.due("spared(" + n + ", 1)", x.spared(n, 1), -1);
        }
        for (int what : new int[] {-1, 2}) Say.due("spared(1, " + what + ")", x.spared(1, what), -1);
        for (int n : Say.FAR) {
            Say.due("spared(" + n + ", 0)", x.spared(n, 0), -1);
            Say.due("spared(1, " + n + ")", x.spared(1, n), -1);
        }
        for (int what = -1; what <= 2; what++) Say.due("without a HOUSE", new FedClocks().spared(1, what), -1);
        x = Say.house("r;cf1;pe0");
        x.go(1);
        Say.due("none lives", x.spared(1, 0), -1);
        Say.due("none lives", x.spared(24, 1), -1);
    }

    private static void seen() {
        Say.inTerms(3, "SEEN: CLOCKS (bits) that a PERSON in a ROOM could look at now (BLIND or not).");
        Say.inPromise(40, "SEEN, as bits.");
        FedClocks x = Say.house("rs1;rs4;r;rs3;r;c;cr1;cr4f1;cr3;cr1z5;cr0z4;pe0:2;pb1");
        int[] want = {1 + 2, 2 + 4, 0, 8, 4};
        for (int p = 0; p < 2; p++)
            for (int room = 0; room < 5; room++) Say.due("seen(" + p + ", " + room + ")", x.seen(p, room), want[room]);
        x.face(5, -1);
        Say.due("not STILL any more", x.seen(0, 0), 1 + 2 + 16 + 32);
        x.paint(0, true);
        Say.due("PAINTED or not", x.seen(0, 0), 51);
        x.go(1);
        Say.due("one died", x.seen(0, 4), 0);
        Say.inPromise(40, "NONE: no such ones.");
        for (int p : new int[] {-1, 2, 6}) Say.due("seen(" + p + ", 0)", x.seen(p, 0), -1);
        for (int room : new int[] {-1, 5, 6}) Say.due("seen(0, " + room + ")", x.seen(0, room), -1);
        for (int n : Say.FAR) {
            Say.due("seen(" + n + ", 0)", x.seen(n, 0), -1);
            Say.due("seen(0, " + n + ")", x.seen(0, n), -1);
        }
        Say.due("without a HOUSE", new FedClocks().seen(0, 0), -1);
        x = Say.house("r;ch0f99m30;ch0f99m30;ch0f99m30;ch0f99m30;ch0f99m30;ch0f99m30;pe0");
        x.go(1);
        Say.due("all ten", x.seen(0, 0), 1023);
    }

    private static void looks() {
        Say.inTerms(3, "LOOKS: at which one a PERSON would look in the next HOUR.");
        Say.inPromise(41, "LOOKS.");
        FedClocks x = Say.house("r;r;r;c;cr1;pe0:012;pe0;pb1");
        int[] want = {0, 1, -1, 0, 1, -1};
        for (int hour = 0; hour < 6; hour++) {
            Say.due("looks(0) in HOUR " + hour, x.looks(0), want[hour]);
            Say.due("it has not gone yet", x.person(0, 2), hour == 0 ? 0 : (hour - 1) % 3);
            x.go(1);
        }
        Say.due("looks(1)", x.looks(1), 0);
        x.send(1, 1);
        Say.due("where it is SENT", x.looks(1), 1);
        x.send(1, 2);
        Say.inPromise(41, "NONE: at nothing, no such PERSON.");
        Say.due("at nothing", x.looks(1), -1);
        Say.due("BLIND", x.looks(2), -1);
        for (int p : new int[] {-1, 3, 6}) Say.due("looks(" + p + ")", x.looks(p), -1);
        for (int p : Say.FAR) Say.due("looks(" + p + ")", x.looks(p), -1);
        Say.due("without a HOUSE", new FedClocks().looks(0), -1);
    }

    private static void child() {
        Say.inTerms(4, "CHILD of which CLOCK one is (NONE: told); LINE: how many are ahead of it so.");
        Say.inPromise(42, "CHILD (what 0; NONE: told), LINE (1).");
        FedClocks x = Say.house("r;ch0f30;ch0f96m2;pe0");
        x.go(4);
        // 96; 48 of 2; 24 of 4; 12 of 8; then one more is all that there is room for
        int[] mothers = {-1, -1, 1, 1, 2, 1, 2, 3, 4, 1};
        int[] lines = {0, 0, 1, 1, 2, 1, 2, 2, 3, 1};
        Say.due("CLOCKS", x.count(1), 10);
        for (int c = 0; c < 10; c++) {
            Say.due("child(" + c + ", 0)", x.child(c, 0), mothers[c]);
            Say.due("child(" + c + ", 1)", x.child(c, 1), lines[c]);
        }
        // the longest line: each time the newest alone goes WILD
        x = Say.house("r;ch0f2m1;pe0");
        for (int c = 1; c <= 9; c++) {
            x.go(1);
            Say.due("CLOCKS", x.count(1), c + 1);
            Say.due("LINE of " + c, x.child(c, 1), c);
            Say.due("CHILD " + c, x.child(c, 0), c - 1);
            x.wind(c, 1);
        }
        Say.inPromise(42, "HIDDEN: no such ones.");
        x = Say.house("r;c;c;p");
        for (int c : new int[] {-1, 2, 10}) {
            Say.due("child(" + c + ", 0)", x.child(c, 0), -1000000);
            Say.due("child(" + c + ", 1)", x.child(c, 1), -1000000);
        }
        for (int what : new int[] {-1, 2}) Say.due("child(0, " + what + ")", x.child(0, what), -1000000);
        for (int n : Say.FAR) {
            Say.due("child(" + n + ", 0)", x.child(n, 0), -1000000);
            Say.due("child(0, " + n + ")", x.child(0, n), -1000000);
        }
        Say.due("without a HOUSE", new FedClocks().child(0, 0), -1000000);
    }

    private static void all() {
        Say.inTerms(4, "ALL: what all have eaten, all strikes since the HOUSE was told (UNDONE ones not).");
        FedClocks x = Say.house("r;ch0t3m99;pe2");
        int[] strikes = {0, 1, 2, 2, 3, 4, 4};
        for (int hour = 1; hour <= 7; hour++) {
            x.go(1);
            Say.due("all eaten", x.count(12), 2 * hour);
            Say.due("all strikes", x.count(13), strikes[hour - 1]);
        }
        for (int hour = 6; hour >= 0; hour--) {
            x.undo();
            Say.due("all eaten", x.count(12), 2 * hour);
            Say.due("all strikes", x.count(13), hour == 0 ? 0 : strikes[hour - 1]);
        }
        x.go(60);
        x.go(40);
        Say.due("more than what is put by", x.count(12), 200);
        Say.tell(x, "r;ch0t3m99;pe2");
        Say.due("of another HOUSE", x.count(12) + x.count(13), 0);
    }

    private static void image() {
        Say.inTerms(4, "An IMAGE keeps CLOCKS, PERSONS, the HOUR, ALL;");
        Say.inPromise(43, "An IMAGE (instead of the one ahead): the HOUR.");
        FedClocks x = Say.house("r;r;ch0f50m40t1;pe3:01;p");
        x.paint(0, true);
        x.send(1, 1);
        x.go(1);
        x.blind(0, true);
        Say.due("image()", x.image(), 1);
        Say.due("it is no ACT", x.count(10), 4);
        String was = Say.told(x);
        x.hang(0, 1);
        x.face(0, 1);
        x.wind(0, 20);
        x.paint(0, false);
        x.blind(0, false);
        x.send(1, -1);
        x.undo();
        x.crowds(7, 3);
        Say.due("back()", x.back(), 1);
        Say.due("CLOCKS, PERSONS, HOUR, ALL", Say.told(x).equals(was), true);
        x.go(3);
        Say.due("image() instead", x.image(), 4);
        x.go(1);
        Say.due("back()", x.back(), 4);
        Say.due("back() again", x.back(), 4);
        Say.inPromise(43, "NONE: no HOUSE.");
        Say.due("without a HOUSE", new FedClocks().image(), -1);
    }

    private static void back() {
        Say.inTerms(4, "BACK: they are so again (no ACT can be UNDONE then; what is put by stays).");
        Say.inPromise(44, "BACK: the HOUR.");
        FedClocks x = Say.house("r;r;ch0f10t2;pe1;p");
        x.go(2);
        x.image();
        Say.due("at once", x.back(), 2);
        Say.due("no ACT can be UNDONE", x.count(10), 0);
        Say.due("undo()", x.undo(), -1);
        Say.due("what is put by", x.count(11), 2);
        x.go(3);
        x.crowd(5);
        x.hear(1, 1);
        Say.due("back()", x.back(), 2);
        int[] want = {2, 1, 2, 0, 0, -1, 2, 5, 1, 1, 0, 5, 6, 3};
        for (int what = 0; what < want.length; what++) Say.due("count(" + what + ")", x.count(what), want[what]);
        Say.due("FAT", clock(x, 0, 2), 16);
        for (int i = 0; i < 5; i++) Say.due("what is put by stays", x.log(i, 0), 3);
        Say.due("an ACT", x.send(0, 1), 1);
        x.go(1);
        Say.due("put by", x.count(11), 6);
        Say.due("its undo", x.undo(), 1);
        Say.due("put by", x.count(11), 5);
        Say.due("undo of send", x.undo(), 0);
        Say.due("undo of none", x.undo(), -1);
        // an IMAGE of later than now
        x.go(60);
        x.image();
        for (int i = 0; i < 40; i++) x.undo();
        Say.due("HOUR", x.count(6), 22);
        Say.due("back() to later", x.back(), 62);
        // those born behind it are there no more, those that died live again
        x = Say.house("r;cf2;ch0f90m50;pe0");
        x.image();
        x.go(2);
        Say.due("three, one of them dead", x.count(1) * 10 + x.count(8), 32);
        Say.due("back()", x.back(), 0);
        Say.due("two that live", x.count(1) * 10 + x.count(8), 22);
        Say.due("FAT", clock(x, 0, 2) * 100 + clock(x, 1, 2), 290);
        Say.inPromise(44, "NONE: no IMAGE of this HOUSE.");
        Say.due("without an IMAGE", Say.house("r;c;p").back(), -1);
        Say.due("without a HOUSE", new FedClocks().back(), -1);
        Say.tell(x, "r;c;c;p");
        Say.due("of another HOUSE", x.back(), -1);
        Say.due("it is as told", x.count(1), 2);
        x.image();
        Say.tell(x, "r;c;c;p");
        Say.due("of another one, told alike", x.back(), -1);
        x.image();
        Say.put(x, "r;c;c;");
        x.text(0);
        Say.due("a FAULT is no other HOUSE", x.back(), 0);
    }

    private static void count() {
        Say.inPromise(45, "0 ROOMS, 1 CLOCKS, 2 PERSONS, 3 TASTES, 4 bytes of the TAPE, 5 the TASTE that holds (NONE), 6 the HOUR, 7 CROWD, 8 how many CLOCKS live, 9 HEARD, 10 ACTS that can be UNDONE, 11 HOURS put by, 12 all that was eaten, 13 all strikes.");
        FedClocks x = Say.house("r;r;r;cf1;ch0f50m40t4;pe3;pe2;pe0;pb1", "y:f", "y:1");
        x.taste(1);
        Say.put(x, "abcdefg");
        x.crowd(9);
        x.hear(1, 1);
        x.hear(2, 1);
        x.send(0, 2);
        x.go(1);
        x.paint(1, true);
        x.paint(1, false);
        x.send(0, 0);
        x.go(2);
        x.hear(3, 1);
        // PERSON 1 feeds the first one, which is worth as much as the second: it lives on
        int[] want = {3, 3, 4, 2, 7, 1, 3, 9, 3, 3, 7, 3, 12, 1};
        for (int what = 0; what < want.length; what++) Say.due("count(" + what + ")", x.count(what), want[what]);
        Say.inPromise(45, "HIDDEN for others.");
        for (int what : new int[] {-1, -2, 14, 15}) Say.due("count(" + what + ")", x.count(what), -1000000);
        for (int what : Say.FAR) Say.due("count(" + what + ")", x.count(what), -1000000);
        for (int what : new int[] {-1, 14}) Say.due("count(" + what + ") without a HOUSE", new FedClocks().count(what), -1000000);
    }

    private static void constants() {
        Say.inTerms(4, "What is refused answers as told");
        Say.due("NONE", FedClocks.NONE, -1);
        Say.due("HIDDEN", FedClocks.HIDDEN, -1000000);
    }
}
