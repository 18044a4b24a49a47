import java.util.function.IntBinaryOperator;

/**
 * Each sentence on who pays that names a boundary has a test of its own: Terms 1 (HOME, LAW,
 * TIES, SHORT, WORTH), Terms 2 and promises 7 to 14.
 */
public final class EdgesOfEveningsTest {
    private static final int BAD = RichestPays.BAD, NONE = RichestPays.NONE;
    private static final int HAND = 0, PAID = 1, EATEN = 2, SHORT = 3;

    public static void main(String[] args) {
        homeFrom0To99();
        worthFrom0To99();
        homeAndWorthOfSix();
        handIsPurseLessHome();
        homeStaysWithOthers();
        readUpToSix();
        readUpToFirstNotToldSo();
        readBadAheadOfNull();
        lawAndTies();
        mostOnHandPaysAll();
        eatsNothing();
        halfIsCut();
        mostOfAllOthersPaysTheRest();
        aloneByHalves();
        eachOnesOwn();
        tiesByNumber();
        tiesOfTheSecond();
        shortByTheRest();
        shortByHalves();
        shortOnOnesOwn();
        kFrom0ToAllRounds();
        stateOfWhat();
        allTogether();
        awayEatsNothing();
        handsAheadOfTheRound();
        payerOfTables();
        payerByWhatIsPaid();
        payerOfLikeOnes();
        payerInThatRound();
        beggarsEatSomething();
        beggarsPayNothing();
        beggarsInAllRounds();
        beggarsAsBits();
        Due.end("EdgesOfEveningsTest");
    }

    /** HAND, PAID, EATEN, SHORT of one behind k ROUNDS. */
    private static void state(RichestPays x, int person, int k, int... due) {
        for (int what = 0; what < due.length; what++) {
            Due.is("state(" + person + ", " + k + ", " + what + ")",
                    x.state(person, k, what), due[what]);
        }
    }

    private static void toldFrom0To99(String name, RichestPays x, IntBinaryOperator tell, int was) {
        for (int p = 0; p < 6; p++) {
            Due.is(name + "(" + p + ", 99) at first", tell.applyAsInt(p, 99), was);
            Due.is(name + "(" + p + ", 0)", tell.applyAsInt(p, 0), 99);
            Due.is(name + "(" + p + ", 1)", tell.applyAsInt(p, 1), 0);
        }
        int most = Integer.MAX_VALUE;
        int least = Integer.MIN_VALUE;
        int[][] wrong = {{0, 100}, {0, -1}, {0, 256}, {0, most}, {0, least}, {5, 100},
            {6, 0}, {-1, 0}, {most, 0}, {least, 0}, {6, 100}};
        for (int[] w : wrong) {
            String call = name + "(" + w[0] + ", " + w[1] + ")";
            Due.refused(x, call, () -> tell.applyAsInt(w[0], w[1]), BAD);
        }
        for (int p = 0; p < 6; p++) {
            Due.is(name + "(" + p + ", 2) as it was", tell.applyAsInt(p, 2), 1);
        }
    }

    private static void homeFrom0To99() {
        Due.sentence("Terms 1: at HOME (0 to 99 of each; 0 at first); 7: what it was. BAD");
        RichestPays x = Make.with("5005", "0");
        toldFrom0To99("home", x, x::home, 0);
    }

    private static void worthFrom0To99() {
        Due.sentence("Terms 1: WORTH (0 to 99 of each; 20 at first); 8: what it was. BAD");
        RichestPays x = Make.with("5005", "0");
        toldFrom0To99("worth", x, x::worth, 20);
    }

    private static void homeAndWorthOfSix() {
        Due.sentence("7, 8: one (0 to 5), of as many PEOPLE as there may be");
        RichestPays x = new RichestPays();
        Due.is("home(5, 9) ahead of PEOPLE", x.home(5, 9), 0);
        Due.is("worth(5, 9) ahead of PEOPLE", x.worth(5, 9), 20);
        Make.type(x, 0, "2001;2001;2001;2001;2001;2001");
        state(x, 5, 0, 11);
        Due.is("home(5, 0) behind PEOPLE", x.home(5, 0), 9);
        Due.is("worth(5, 0) behind PEOPLE", x.worth(5, 0), 9);
    }

    private static void hand(int purse, int home, int due) {
        RichestPays x = Make.with(String.format("%02d05", purse), "");
        x.home(0, home);
        Due.is("HAND of " + purse + " less " + home, x.state(0, 0, HAND), due);
        Due.is("count(6) of " + purse + " less " + home, x.count(6), due);
        Due.is("count(5) of " + purse + " less " + home, x.count(5), purse);
    }

    private static void handIsPurseLessHome() {
        Due.sentence("Terms 1: on HAND is PURSE less that, 0 at least");
        hand(50, 0, 50);
        hand(50, 49, 1);
        hand(50, 50, 0);
        hand(50, 51, 0);
        hand(50, 99, 0);
        hand(99, 0, 99);
        hand(99, 99, 0);
        hand(0, 0, 0);
        hand(0, 99, 0);
    }

    private static void homeStaysWithOthers() {
        Due.sentence("Terms 1: HOME is of each, whatever PURSE is told");
        RichestPays x = Make.with("5005;2003", "");
        x.home(1, 15);
        state(x, 1, 0, 5);
        Make.retype(x, 0, "1005;1903;1902");
        state(x, 0, 0, 10);
        state(x, 1, 0, 4);
        state(x, 2, 0, 19);
    }

    private static void homes(RichestPays x, int... due) {
        for (int p = 0; p < 6; p++) {
            Due.is("home(" + p + ", ..)", x.home(p, 0), due[p]);
        }
    }

    private static void readUpToSix() {
        Due.sentence("9: item by item, six at most: how many");
        for (int n = 0; n <= 8; n++) {
            RichestPays x = new RichestPays();
            Make.row(x, 0, new int[] {11, 12, 13, 14, 15, 16, 17, 18}, n);
            Due.is("read() of " + n, x.read(0), Math.min(n, 6));
            for (int p = 0; p < 6; p++) {
                Due.is("home(" + p + ", 0)", x.home(p, 0), p < n ? 11 + p : 0);
            }
        }
        RichestPays x = new RichestPays();
        x.sheet(3, 0, 48);
        Due.is("read() of 48", x.read(3), 6);
    }

    private static void readUpToFirstNotToldSo() {
        Due.sentence("9: up to the first that is not 0 to 99");
        RichestPays x = Make.with("5005", "");
        Make.row(x, 0, 0, 99, 5, 100, 7);
        Due.is("read(0) up to 100", x.read(0), 3);
        homes(x, 0, 99, 5, 0, 0, 0);
        Make.row(x, 0, 1, -1, 7);
        x.home(1, 33);
        Due.is("read(0) up to -1", x.read(0), 1);
        homes(x, 1, 33, 0, 0, 0, 0);
        Make.row(x, 0, 100);
        Due.is("read(0) of 100 first", x.read(0), 0);
        Make.row(x, 0, Integer.MIN_VALUE, 3);
        Due.is("read(0) of the least int first", x.read(0), 0);
        homes(x, 0, 0, 0, 0, 0, 0);
        Make.row(x, 0, 1, 2, 3, 4, 5, 6, 100);
        Due.is("read(0) with a wrong one behind six", x.read(0), 6);
        x.sheet(1, 0, 2);
        x.put(1, 0, 0, 99);
        x.put(1, 0, 1, 200);
        Due.is("read(1) of bytes", x.read(1), 1);
        homes(x, 99, 2, 3, 4, 5, 6);
        x.sheet(2, 1, 1);
        x.put(2, 1, 0, 65536 + 7);
        Due.is("read(2) of shorts", x.read(2), 1);
        homes(x, 7, 0, 0, 0, 0, 0);
    }

    private static void readBadAheadOfNull() {
        Due.sentence("9: BAD; NULL");
        RichestPays x = new RichestPays();
        x.home(0, 9);
        for (int s : new int[] {-1, 4, Integer.MIN_VALUE, Integer.MAX_VALUE}) {
            Due.is("read(" + s + ")", x.read(s), BAD);
            Due.is("count(8)", x.count(8), 0);
        }
        for (int s = 0; s < 4; s++) {
            Due.is("read(" + s + ")", x.read(s), -11);
        }
        Due.is("count(8)", x.count(8), 1);
        Due.is("home(0, 0)", x.home(0, 0), 9);
    }

    private static void lawAndTies() {
        Due.sentence("10: LAW (what = 0; 0 to 2), TIES (1): what it was. BAD");
        RichestPays x = Make.with("5005;5003", "00");
        Due.is("LAW at first", x.set(0, 2), 0);
        Due.is("TIES at first", x.set(1, 1), 0);
        int most = Integer.MAX_VALUE;
        int least = Integer.MIN_VALUE;
        int[][] wrong = {{0, 3}, {0, -1}, {0, most}, {0, least}, {1, 2}, {1, -1}, {1, most},
            {1, least}, {2, 0}, {-1, 0}, {most, 0}, {least, 0}, {2, 3}};
        for (int[] w : wrong) {
            Due.refused(x, "set(" + w[0] + ", " + w[1] + ")", () -> x.set(w[0], w[1]), BAD);
        }
        Due.is("LAW as it was", x.set(0, 1), 2);
        Due.is("TIES as they were", x.set(1, 0), 1);
        Due.is("LAW", x.set(0, 0), 1);
        Due.is("TIES", x.set(1, 0), 0);
    }

    private static void mostOnHandPaysAll() {
        Due.sentence("Terms 1: LAW 0 (at first): who has most on HAND pays what all eat there");
        RichestPays x = Make.with("5010;4920;9930;9999", "000-");
        x.home(2, 48);
        state(x, 2, 1, 0, 51, 30, 9);
        state(x, 0, 1, 50, 0, 10, 0);
        x.home(2, 50);
        state(x, 0, 1, 0, 50, 10, 10);
        state(x, 2, 1, 49, 0, 30, 0);
        state(x, 3, 1, 99, 0, 0, 0);
        RichestPays alone = Make.with("5010", "5");
        state(alone, 0, 1, 40, 10, 10, 0);
    }

    private static void eatsNothing() {
        Due.sentence("Terms 1: (their APPETITES), of 0 too");
        for (int law = 0; law <= 2; law++) {
            RichestPays x = Make.with("5000;4000;0000", "000");
            x.set(0, law);
            state(x, 0, 1, 50, 0, 0, 0);
            state(x, 1, 1, 40, 0, 0, 0);
            state(x, 2, 1, 0, 0, 0, 0);
        }
    }

    /** Two, who eat so much together: what the richer and the other pay. */
    private static void halves(int total, int richest, int second) {
        RichestPays x = Make.with(String.format("9800;99%02d", total), "00");
        x.set(0, 1);
        Due.is("the one who has most, of " + total, x.state(1, 1, PAID), richest);
        Due.is("the other one, of " + total, x.state(0, 1, PAID), second);
    }

    private static void halfIsCut() {
        Due.sentence("Terms 1: LAW 1: the one who has most pays half (cut)");
        halves(0, 0, 0);
        halves(1, 0, 1);
        halves(2, 1, 1);
        halves(3, 1, 2);
        halves(98, 49, 49);
        halves(99, 49, 50);
    }

    private static void mostOfAllOthersPaysTheRest() {
        Due.sentence("Terms 1: LAW 1: the one who has most of all others the rest");
        RichestPays x = Make.with("3003;5004;4006;9999", "000-");
        x.set(0, 1);
        state(x, 0, 1, 30, 0, 3, 0);
        state(x, 1, 1, 44, 6, 4, 0);
        state(x, 2, 1, 33, 7, 6, 0);
        Make.retype(x, 1, "0001");
        x.home(3, 69);
        state(x, 2, 1, 33, 7, 6, 0);
        Make.retype(x, 1, "0000");
        x.home(3, 58);
        state(x, 3, 1, 0, 41, 99, 15);
        state(x, 2, 1, 40, 0, 6, 0);
    }

    private static void aloneByHalves() {
        Due.sentence("Terms 1: LAW 1: who is alone pays all");
        RichestPays x = Make.with("5011;5011", "0-;01;51");
        x.set(0, 1);
        state(x, 0, 1, 39, 11, 11, 0);
        state(x, 1, 1, 50, 0, 0, 0);
        state(x, 0, 2, 28, 22, 22, 0);
        state(x, 1, 2, 39, 11, 11, 0);
        state(x, 0, 3, 17, 33, 33, 0);
    }

    private static void eachOnesOwn() {
        Due.sentence("Terms 1: LAW 2: each pays one's own");
        RichestPays x = Make.with("5011;9900;2020;0007", "0000");
        x.set(0, 2);
        state(x, 0, 1, 39, 11, 11, 0);
        state(x, 1, 1, 99, 0, 0, 0);
        state(x, 2, 1, 0, 20, 20, 0);
        state(x, 3, 1, 0, 0, 7, 7);
    }

    private static void tiesByNumber() {
        Due.sentence("Terms 1: TIES: of those who have as much the least number (0), the greatest (1)");
        for (int n = 2; n <= 6; n++) {
            RichestPays x = Make.with("5001;5001;5001;5001;5001;5001".substring(0, 5 * n - 1),
                    "000000".substring(0, n));
            Due.is("PAID by the first", x.state(0, 1, PAID), n);
            Due.is("PAID by the last", x.state(n - 1, 1, PAID), 0);
            x.set(1, 1);
            Due.is("PAID by the first, TIES 1", x.state(0, 1, PAID), 0);
            Due.is("PAID by the last, TIES 1", x.state(n - 1, 1, PAID), n);
        }
        RichestPays x = Make.with("4901;5001;5001;4901", "0000");
        Due.is("not the first of all", x.state(1, 1, PAID), 4);
        x.set(1, 1);
        Due.is("not the last of all", x.state(2, 1, PAID), 4);
        Make.retype(x, 1, "00-0");
        Due.is("not one who is away", x.state(1, 1, PAID), 3);
        x.set(1, 0);
        Make.retype(x, 0, "5001;5101;5001;4901");
        Make.retype(x, 1, "0000");
        Due.is("one more on HAND", x.state(1, 1, PAID), 4);
        x.set(1, 1);
        Due.is("one more on HAND, TIES 1", x.state(1, 1, PAID), 4);
    }

    private static void tiesOfTheSecond() {
        Due.sentence("Terms 1: TIES: .. is ahead, of all others too");
        RichestPays x = Make.with("5001;5001;5001", "000");
        x.set(0, 1);
        state(x, 0, 1, 49, 1);
        state(x, 1, 1, 48, 2);
        state(x, 2, 1, 50, 0);
        x.set(1, 1);
        state(x, 2, 1, 49, 1);
        state(x, 1, 1, 48, 2);
        state(x, 0, 1, 50, 0);
        Make.retype(x, 0, "5001;6001;5001");
        state(x, 1, 1, 59, 1);
        state(x, 2, 1, 48, 2);
        x.set(1, 0);
        state(x, 0, 1, 48, 2);
    }

    private static void shortByTheRest() {
        Due.sentence("Terms 1: Who has less than one is to pay pays all: one is SHORT by the rest");
        int[][] due = {{11, 10, 0}, {10, 10, 0}, {9, 9, 1}, {1, 1, 9}, {0, 0, 10}};
        for (int[] d : due) {
            RichestPays x = Make.with(String.format("%02d10", d[0]), "0");
            state(x, 0, 1, d[0] - d[1], d[1], 10, d[2]);
        }
        RichestPays x = Make.with("1010;0999", "00;00;00");
        state(x, 0, 1, 0, 10, 10, 99);
        state(x, 1, 1, 9, 0, 99, 0);
        state(x, 1, 2, 0, 9, 99 * 2, 100);
        state(x, 0, 3, 0, 10, 30, 99 + 109);
        state(x, 1, 3, 0, 9, 99 * 3, 100);
    }

    private static void shortByHalves() {
        Due.sentence("Terms 1: SHORT, by LAW 1");
        RichestPays x = Make.with("0420;0301;0001", "000");
        x.set(0, 1);
        state(x, 0, 1, 0, 4, 20, 7);
        state(x, 1, 1, 0, 3, 1, 8);
        state(x, 2, 1, 0, 0, 1, 0);
        Make.retype(x, 0, "1120;1101;0001");
        state(x, 0, 1, 0, 11, 20, 0);
        state(x, 1, 1, 0, 11, 1, 0);
    }

    private static void shortOnOnesOwn() {
        Due.sentence("Terms 1: SHORT, by LAW 2");
        RichestPays x = Make.with("1010;0910;9900", "000");
        x.set(0, 2);
        state(x, 0, 1, 0, 10, 10, 0);
        state(x, 1, 1, 0, 9, 10, 1);
        Due.is("all(1, 3)", x.all(1, SHORT), 1);
    }

    private static void kFrom0ToAllRounds() {
        Due.sentence("Terms 2: Behind k ROUNDS (0 to as many as there are)");
        for (int n = 0; n <= 8; n++) {
            RichestPays x = Make.with("9910", "0;0;0;0;0;0;0;0".substring(0, Math.max(0, 2 * n - 1)));
            for (int k = 0; k <= n; k++) {
                state(x, 0, k, 99 - 10 * k, 10 * k, 10 * k, 0);
                Due.is("all(" + k + ", 1)", x.all(k, PAID), 10 * k);
            }
            for (int k : new int[] {-1, n + 1, 9, Integer.MIN_VALUE, Integer.MAX_VALUE}) {
                Due.is("state(0, " + k + ", 0) of " + n, x.state(0, k, 0), BAD);
                Due.is("all(" + k + ", 0) of " + n, x.all(k, 0), BAD);
            }
        }
    }

    private static void stateOfWhat() {
        Due.sentence("11: HAND (what = 0), PAID (1), EATEN (2), SHORT (3). BAD");
        RichestPays x = Make.with("3050;2005", "00");
        state(x, 0, 1, 0, 30, 50, 25);
        state(x, 1, 1, 20, 0, 5, 0);
        int most = Integer.MAX_VALUE;
        int least = Integer.MIN_VALUE;
        int[][] wrong = {{0, 1, 4}, {0, 1, -1}, {0, 1, most}, {0, 1, least}, {2, 1, 0}, {-1, 1, 0},
            {5, 0, 0}, {6, 0, 0}, {most, 0, 0}, {least, 0, 0}, {0, 2, 0}, {0, -1, 0}};
        for (int[] w : wrong) {
            String call = "state(" + w[0] + ", " + w[1] + ", " + w[2] + ")";
            Due.refused(x, call, () -> x.state(w[0], w[1], w[2]), BAD);
        }
    }

    private static void allTogether() {
        Due.sentence("12: Of all together behind k ROUNDS: likewise. BAD");
        RichestPays x = Make.with("3050;2005;0109", "0-1;-00");
        int[][] due = {{51, 0, 0, 0}, {20, 31, 59, 28}, {6, 45, 73, 28}};
        for (int k = 0; k <= 2; k++) {
            for (int what = 0; what < 4; what++) {
                Due.is("all(" + k + ", " + what + ")", x.all(k, what), due[k][what]);
            }
        }
        int most = Integer.MAX_VALUE;
        int least = Integer.MIN_VALUE;
        int[][] wrong = {{3, 0}, {-1, 0}, {0, 4}, {0, -1}, {0, most}, {0, least}, {most, 0}};
        for (int[] w : wrong) {
            Due.refused(x, "all(" + w[0] + ", " + w[1] + ")", () -> x.all(w[0], w[1]), BAD);
        }
        RichestPays none = new RichestPays();
        for (int what = 0; what < 4; what++) {
            Due.is("all(0, " + what + ") of none", none.all(0, what), 0);
        }
        Due.is("all(1, 0) of none", none.all(1, 0), BAD);
    }

    private static void awayEatsNothing() {
        Due.sentence("Terms 1: - (one stays away)");
        for (int law = 0; law <= 2; law++) {
            RichestPays x = Make.with("9905;2003", "-0;--");
            x.set(0, law);
            state(x, 0, 2, 99, 0, 0, 0);
            state(x, 1, 2, 17, 3, 3, 0);
        }
    }

    private static void handsAheadOfTheRound() {
        Due.sentence("Terms 2: In each ROUND all TABLES pay at once, by HANDS ahead of it");
        RichestPays x = Make.with("3010;2501;2810;2701", "0110;0011");
        // ROUND 0: 0 pays 11 of 30, 2 pays 11 of 28; ROUND 1: of 19 and 25, of 17 and 27
        state(x, 0, 1, 19, 11);
        state(x, 2, 1, 17, 11);
        state(x, 1, 2, 14, 11);
        state(x, 3, 2, 16, 11);
        state(x, 0, 2, 19, 11);
    }

    private static void payerOfTables() {
        Due.sentence("13: PAYER; NONE. BAD; Terms 2: NONE: nobody sits there");
        RichestPays x = Make.with("3010;2005;1005", "05-;---");
        Due.is("payer(0, 0)", x.payer(0, 0), 0);
        Due.is("payer(0, 5)", x.payer(0, 5), 1);
        for (int table = 1; table < 5; table++) {
            Due.is("payer(0, " + table + ")", x.payer(0, table), NONE);
        }
        for (int table = 0; table < 6; table++) {
            Due.is("payer(1, " + table + ")", x.payer(1, table), NONE);
        }
        int most = Integer.MAX_VALUE;
        int least = Integer.MIN_VALUE;
        int[][] wrong = {{2, 0}, {-1, 0}, {8, 0}, {most, 0}, {least, 0}, {0, 6}, {0, -1},
            {0, most}, {0, least}};
        for (int[] w : wrong) {
            Due.refused(x, "payer(" + w[0] + ", " + w[1] + ")", () -> x.payer(w[0], w[1]), BAD);
        }
        Due.is("payer(0, 0) of none", new RichestPays().payer(0, 0), BAD);
    }

    private static void payerByWhatIsPaid() {
        Due.sentence("Terms 2: PAYER: who pays most there");
        RichestPays x = Make.with("9903;0499;5005", "000");
        x.set(0, 2);
        Due.is("payer(0, 0): not who eats most", x.payer(0, 0), 2);
        Make.retype(x, 0, "9903;0499;5004");
        Due.is("payer(0, 0): 4 of 4 and 4 of 50", x.payer(0, 0), 1);
        x.set(1, 1);
        Due.is("payer(0, 0): 4 and 4, TIES 1", x.payer(0, 0), 2);
        Make.retype(x, 0, "9905;0499;5004");
        Due.is("payer(0, 0): 5", x.payer(0, 0), 0);
        x.set(0, 1);
        Make.retype(x, 0, "9903;5000;4000");
        Due.is("payer(0, 0): 1 and the rest of 2", x.payer(0, 0), 1);
    }

    private static void payerOfLikeOnes() {
        Due.sentence("Terms 2: PAYER: of like ones who is ahead by TIES");
        RichestPays x = Make.with("5002;5002;5002;5002", "1001");
        x.set(0, 2);
        Due.is("payer(0, 0)", x.payer(0, 0), 1);
        Due.is("payer(0, 1)", x.payer(0, 1), 0);
        x.set(1, 1);
        Due.is("payer(0, 0), TIES 1", x.payer(0, 0), 2);
        Due.is("payer(0, 1), TIES 1", x.payer(0, 1), 3);
        x.set(0, 0);
        Make.retype(x, 0, "5000;4000;3000;2000");
        Due.is("payer(0, 0), all of 0, TIES 1", x.payer(0, 0), 2);
        x.set(1, 0);
        Due.is("payer(0, 0), all of 0", x.payer(0, 0), 1);
    }

    private static void payerInThatRound() {
        Due.sentence("Terms 2: PAYER of a TABLE in a ROUND");
        RichestPays x = Make.with("5020;4000", "00;00;00");
        Due.is("payer(0, 0)", x.payer(0, 0), 0);
        Due.is("payer(1, 0)", x.payer(1, 0), 1);
        Due.is("payer(2, 0)", x.payer(2, 0), 0);
    }

    private static void beggarsEatSomething() {
        Due.sentence("Terms 2: BEGGARS: PEOPLE who eat something");
        RichestPays x = Make.with("5010;4001;4000;4009", "000-");
        Due.is("beggars()", x.beggars(), 1 << 1);
        x.wipe(1);
        Due.is("beggars() of no ROUNDS", x.beggars(), 0);
    }

    private static void beggarsPayNothing() {
        Due.sentence("Terms 2: BEGGARS: and pay nothing");
        RichestPays x = Make.with("0110;0005", "01");
        Due.is("beggars(), who pays 1, who has nothing", x.beggars(), 1 << 1);
        x.set(0, 2);
        Due.is("beggars() by LAW 2", x.beggars(), 1 << 1);
        x.home(0, 1);
        Due.is("beggars() with all at HOME", x.beggars(), 3);
        RichestPays y = Make.with("5010;4005;3005", "000");
        Due.is("beggars() by LAW 0", y.beggars(), 2 + 4);
        y.set(0, 1);
        Due.is("beggars() by LAW 1", y.beggars(), 4);
        // of a total of 1 the richest pays the half, which is 0
        Make.retype(y, 0, "5001;4000;3000");
        Due.is("beggars() by a half of 0", y.beggars(), 1);
    }

    private static void beggarsInAllRounds() {
        Due.sentence("Terms 2: BEGGARS: in all ROUNDS together");
        RichestPays x = Make.with("5010;4005", "00;00;00;00;00;00;00");
        Due.is("beggars(), who pays once", x.beggars(), 0);
        Make.retype(x, 1, "00");
        Due.is("beggars() of one ROUND", x.beggars(), 2);
        Make.retype(x, 1, "00;--;-0");
        Due.is("beggars(), who pays in the last", x.beggars(), 0);
        Make.retype(x, 1, "--;0-");
        Due.is("beggars(), who never sits", x.beggars(), 0);
    }

    private static void beggarsAsBits() {
        Due.sentence("14: BEGGARS, as bits");
        for (int rich = 0; rich < 6; rich++) {
            StringBuilder people = new StringBuilder();
            for (int p = 0; p < 6; p++) {
                people.append(p == 0 ? "" : ";").append(p == rich ? "9905" : "5005");
            }
            RichestPays x = Make.with(people.toString(), "000000");
            Due.is("beggars() beside " + rich, x.beggars(), 63 - (1 << rich));
        }
        Due.is("beggars() of none", new RichestPays().beggars(), 0);
    }
}
