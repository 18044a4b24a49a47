/**
 * Each sentence on what is not shown that names a boundary has a test of its own: Terms 4 and
 * promises 19 to 24.
 */
public final class EdgesOfDarkTest {
    private static final int BAD = RichestPays.BAD, NOT = RichestPays.NOT, NONE = RichestPays.NONE;
    private static final int FULL = RichestPays.FULL;

    public static void main(String[] args) {
        darkTheLeast();
        darkSomeOfWhatIsOnHand();
        darkAtFirst();
        darkByLaws();
        darkNone();
        darkNot();
        darkBad();
        seenEightAtMost();
        seenOfRoundsAndPeople();
        seenBadAheadOfFull();
        forgetTellsHowMany();
        unlikeAsAllIsTold();
        unlikeOfThatRound();
        unlikeOfThoseThatThereAreNot();
        unlikeTwiceTold();
        hidTheLeast();
        hidFrom0ToOnesPurse();
        hidInPlaceOfWhatIsTold();
        hidNone();
        hidAllSeen();
        hidBad();
        luckMoreThanEachOfThem();
        luckOfNoOthers();
        luckInLowestTerms();
        luckUpToTheMost();
        luckRefused();
        Due.end("EdgesOfDarkTest");
    }

    // ---- dark

    private static void darkTheLeast() {
        Due.sentence("Terms 4: DARK: the least by which one pays less than else");
        RichestPays x = Make.with("6010;5010", "00");
        Due.is("dark(0, 0, 1): 55 and 55 is not enough", x.dark(0, 0, 1), 6);
        x.set(1, 1);
        Due.is("dark(0, 0, 1): 55 and 55, TIES 1", x.dark(0, 0, 1), 5);
        Make.retype(x, 0, "5010;5010");
        Due.is("dark(0, 1, 0), as much as the other, TIES 1", x.dark(0, 1, 0), 1);
        x.set(1, 0);
        Due.is("dark(0, 0, 1), as much as the other", x.dark(0, 0, 1), 1);
        // a third one is ahead before the friend is
        Make.retype(x, 0, "6010;1000;5900");
        Make.retype(x, 1, "000");
        Due.is("dark(0, 0, 1) beside a third", x.dark(0, 0, 1), 2);
        Make.retype(x, 0, "1210;0000");
        Make.retype(x, 1, "00");
        Due.is("dark(0, 0, 1), less left than to pay", x.dark(0, 0, 1), 3);
        Make.retype(x, 0, "0910;0000");
        Due.is("dark(0, 0, 1), SHORT: any farthing", x.dark(0, 0, 1), 1);
    }

    private static void darkSomeOfWhatIsOnHand() {
        Due.sentence("Terms 4: DARK: one passes a friend there some of what is on HAND");
        RichestPays x = Make.with("0110;0010", "00");
        Due.is("dark(0, 0, 1) of 1", x.dark(0, 0, 1), 1);
        Make.retype(x, 0, "0010;0010");
        Due.is("dark(0, 0, 1) of 0", x.dark(0, 0, 1), NONE);
        // by one's own, what is left must be less than one eats: up to all on HAND
        x.set(0, 2);
        Make.retype(x, 0, "9901;9910");
        Due.is("dark(0, 0, 1) of all 99", x.dark(0, 0, 1), 99);
        Due.is("dark(0, 1, 0), the friend above 99", x.dark(0, 1, 0), 90);
        x.home(0, 98);
        Due.is("dark(0, 0, 1) of all but HOME", x.dark(0, 0, 1), 1);
        x.home(0, 99);
        Due.is("dark(0, 0, 1) with all at HOME", x.dark(0, 0, 1), NONE);
    }

    private static void darkAtFirst() {
        Due.sentence("Terms 4: DARK: at a TABLE of a ROUND, at first");
        RichestPays x = Make.with("6030;5010", "00;00;11");
        for (int round = 0; round < 3; round++) {
            Due.is("dark(" + round + ", 0, 1)", x.dark(round, 0, 1), 6);
            Due.is("dark(" + round + ", 1, 0)", x.dark(round, 1, 0), NONE);
        }
        x.home(0, 8);
        Due.is("dark(2, 0, 1) with HOME", x.dark(2, 0, 1), 2);
        // who sits elsewhere then is not asked
        Make.retype(x, 0, "6030;5010;9999");
        Make.retype(x, 1, "001;000;00-");
        x.home(0, 0);
        Due.is("dark(0, 0, 1), the third elsewhere", x.dark(0, 0, 1), 6);
        Due.is("dark(1, 0, 1), the third there", x.dark(1, 0, 1), NONE);
        Due.is("dark(2, 0, 1), the third away", x.dark(2, 0, 1), 6);
    }

    private static void darkByLaws() {
        Due.sentence("Terms 4: DARK, by LAW");
        RichestPays x = Make.with("6005;5006", "00");
        x.set(0, 1);
        // of 11 the richer pays 5, the other 6: only with 4 on HAND one pays less
        Due.is("dark(0, 0, 1), of half to pay", x.dark(0, 0, 1), 56);
        Due.is("dark(0, 1, 0), of the rest to pay", x.dark(0, 1, 0), 45);
        Make.retype(x, 0, "5005;6006;4900");
        Make.retype(x, 1, "000");
        Due.is("dark(0, 0, 1), behind a third", x.dark(0, 0, 1), 2);
        x.set(1, 1);
        Due.is("dark(0, 0, 1), behind a third, TIES 1", x.dark(0, 0, 1), 1);
        x.set(0, 2);
        Due.is("dark(0, 0, 1), one's own", x.dark(0, 0, 1), 46);
        Due.is("dark(0, 2, 1), nothing of one's own", x.dark(0, 2, 1), NONE);
    }

    private static void darkNone() {
        Due.sentence("Terms 4: DARK: NONE");
        RichestPays x = Make.with("6010;5010;0010", "000");
        Due.is("dark(0, 1, 0), who pays nothing", x.dark(0, 1, 0), NONE);
        Due.is("dark(0, 2, 0), who has nothing", x.dark(0, 2, 0), NONE);
        Make.retype(x, 0, "6000;5000;0000");
        Due.is("dark(0, 0, 1), nothing to pay", x.dark(0, 0, 1), NONE);
    }

    private static void darkNot() {
        Due.sentence("19: NOT: they do not sit at one TABLE in that ROUND");
        RichestPays x = Make.with("6010;5010", "01;0-;-0;--;50;55");
        int[] due = {NOT, NOT, NOT, NOT, NOT, 6};
        for (int round = 0; round < 6; round++) {
            Due.is("dark(" + round + ", 0, 1)", x.dark(round, 0, 1), due[round]);
        }
        Due.refused(x, "dark(0, 0, 1)", () -> x.dark(0, 0, 1), NOT);
        Due.refused(x, "dark(3, 1, 0)", () -> x.dark(3, 1, 0), NOT);
    }

    private static void darkBad() {
        Due.sentence("19: BAD: also one with oneself; ahead of NOT");
        RichestPays x = Make.with("6010;5010", "00;--");
        int most = Integer.MAX_VALUE;
        int least = Integer.MIN_VALUE;
        int[][] wrong = {{0, 0, 0}, {0, 1, 1}, {1, 0, 0}, {2, 0, 1}, {-1, 0, 1}, {8, 0, 1},
            {most, 0, 1}, {least, 0, 1}, {0, 2, 1}, {0, -1, 1}, {0, most, 1}, {0, least, 1},
            {0, 0, 2}, {0, 0, -1}, {0, 0, most}, {0, 0, least}, {1, 0, 2}, {1, 2, 2}, {0, 6, 6}};
        for (int[] w : wrong) {
            String call = "dark(" + w[0] + ", " + w[1] + ", " + w[2] + ")";
            Due.refused(x, call, () -> x.dark(w[0], w[1], w[2]), BAD);
        }
        Due.is("dark(0, 0, 1) of none", new RichestPays().dark(0, 0, 1), BAD);
    }

    // ---- seen, forget, unlike

    private static void seenEightAtMost() {
        Due.sentence("Terms 4: SEEN, 8 at most; 20: how many. FULL");
        RichestPays x = Make.with("6010;5010", "00");
        for (int i = 1; i <= 8; i++) {
            Due.is("seen() number " + i, x.seen(0, 0, 20), i);
            Due.is("count(4)", x.count(4), i);
        }
        Due.refused(x, "seen() number 9", () -> x.seen(0, 0, 21), FULL);
        Due.is("count(4)", x.count(4), 8);
        Due.is("unlike()", x.unlike(), 0);
        Due.is("forget()", x.forget(), 8);
        Due.is("seen() behind forget()", x.seen(0, 0, 21), 1);
    }

    private static void seenOfRoundsAndPeople() {
        Due.sentence("Terms 4: SEEN: in a ROUND (0 to 7) one (0 to 5) PAID so much (0 to 99)");
        RichestPays x = new RichestPays();
        int[][] told = {{0, 0, 0}, {7, 0, 0}, {0, 5, 0}, {0, 0, 99}, {7, 5, 99}};
        for (int i = 0; i < told.length; i++) {
            Due.is("seen() number " + (i + 1), x.seen(told[i][0], told[i][1], told[i][2]), i + 1);
        }
    }

    private static void seenBadAheadOfFull() {
        Due.sentence("20: BAD; FULL, the first that fits");
        int most = Integer.MAX_VALUE;
        int least = Integer.MIN_VALUE;
        int[][] wrong = {{8, 0, 0}, {-1, 0, 0}, {most, 0, 0}, {least, 0, 0}, {0, 6, 0}, {0, -1, 0},
            {0, most, 0}, {0, least, 0}, {0, 0, 100}, {0, 0, -1}, {0, 0, most}, {0, 0, least}};
        RichestPays x = Make.with("6010;5010", "00");
        RichestPays full = Make.with("6010;5010", "00");
        for (int i = 0; i < 8; i++) {
            full.seen(0, 0, 20);
        }
        for (int[] w : wrong) {
            String call = "seen(" + w[0] + ", " + w[1] + ", " + w[2] + ")";
            Due.refused(x, call, () -> x.seen(w[0], w[1], w[2]), BAD);
            Due.refused(full, call + " of 8", () -> full.seen(w[0], w[1], w[2]), BAD);
        }
        Due.is("count(4)", x.count(4), 0);
        Due.is("seen(7, 5, 99) of 8", full.seen(7, 5, 99), FULL);
    }

    private static void forgetTellsHowMany() {
        Due.sentence("21: All SEEN are forgotten: how many");
        for (int n = 0; n <= 8; n++) {
            RichestPays x = Make.with("6010;5010", "00");
            for (int i = 0; i < n; i++) {
                x.seen(0, 0, 1);
            }
            Due.is("forget() of " + n, x.forget(), n);
            Due.is("forget() again", x.forget(), 0);
            Due.is("count(4)", x.count(4), 0);
            Due.is("unlike()", x.unlike(), 0);
            Due.is("hid(1)", x.hid(1), 0);
        }
    }

    private static void unlikeAsAllIsTold() {
        Due.sentence("Terms 4: UNLIKE: how many do not come out so, as all is told");
        RichestPays x = Make.with("6010;5010", "00");
        x.seen(0, 0, 20);
        x.seen(0, 1, 0);
        Due.is("unlike()", x.unlike(), 0);
        x.home(0, 11);
        Due.is("unlike() by HOME", x.unlike(), 2);
        x.home(0, 10);
        Due.is("unlike() by HOME, as much", x.unlike(), 0);
        x.set(1, 1);
        Due.is("unlike() by TIES", x.unlike(), 2);
        x.set(0, 1);
        Due.is("unlike() by LAW", x.unlike(), 2);
        x.set(0, 2);
        x.home(0, 41);
        Due.is("unlike() by LAW 2", x.unlike(), 2);
        x.set(0, 0);
        Make.retype(x, 0, "9910;5010");
        Due.is("unlike() by PEOPLE", x.unlike(), 0);
        Make.retype(x, 1, "01");
        Due.is("unlike() by ROUNDS", x.unlike(), 2);
        Make.retype(x, 0, "9919;5010");
        Due.is("unlike() with one farthing less", x.unlike(), 2);
        Make.retype(x, 0, "9920;5000");
        Due.is("unlike() with as much", x.unlike(), 0);
    }

    private static void unlikeOfThatRound() {
        Due.sentence("Terms 4: SEEN: in a ROUND one PAID so much");
        RichestPays x = Make.with("6010;3010", "00;01;-0;00");
        int[][] paid = {{20, 0}, {10, 10}, {0, 10}, {20, 0}};
        for (int round = 0; round < 4; round++) {
            x.seen(round, 0, paid[round][0]);
            x.seen(round, 1, paid[round][1]);
        }
        Due.is("unlike()", x.unlike(), 0);
        x.forget();
        x.seen(1, 0, 30);
        x.seen(2, 0, 30);
        x.seen(2, 1, 20);
        Due.is("unlike() of sums of ROUNDS", x.unlike(), 3);
    }

    private static void unlikeOfThoseThatThereAreNot() {
        Due.sentence("Terms 4: UNLIKE: (those of ROUNDS or PEOPLE that there are not, too)");
        RichestPays x = Make.with("6000;3000", "00");
        x.seen(0, 0, 0);
        Due.is("unlike()", x.unlike(), 0);
        x.seen(1, 0, 0);
        Due.is("unlike() of the next ROUND", x.unlike(), 1);
        x.seen(0, 2, 0);
        Due.is("unlike() of the next one", x.unlike(), 2);
        x.seen(7, 5, 0);
        Due.is("unlike() of the last of both", x.unlike(), 3);
        Make.type(x, 1, ";00");
        Due.is("unlike() with that ROUND", x.unlike(), 2);
        x.wipe(1);
        Make.type(x, 0, ";0000");
        Make.type(x, 1, "000;000");
        Due.is("unlike() with that one too", x.unlike(), 1);
        x.wipe(1);
        Due.is("unlike() without ROUNDS", x.unlike(), 4);
        x.wipe(0);
        Due.is("unlike() without PEOPLE", x.unlike(), 4);
    }

    private static void unlikeTwiceTold() {
        Due.sentence("Terms 4: UNLIKE: how many, one told twice too");
        RichestPays x = Make.with("6010;5010", "00");
        x.seen(0, 0, 20);
        x.seen(0, 0, 21);
        x.seen(0, 0, 21);
        x.seen(0, 0, 19);
        Due.is("unlike()", x.unlike(), 3);
    }

    // ---- hid

    private static void hidTheLeast() {
        Due.sentence("Terms 4: HID: the least");
        RichestPays x = Make.with("6010;5010", "00");
        Due.is("hid(0), nothing SEEN", x.hid(0), 0);
        x.seen(0, 1, 20);
        Due.is("hid(0): with 49 at most", x.hid(0), 11);
        x.set(1, 1);
        Due.is("hid(0): with 50 at most", x.hid(0), 10);
        x.set(1, 0);
        x.forget();
        x.seen(0, 0, 20);
        Due.is("hid(0), who paid", x.hid(0), 0);
        Due.is("hid(1), who did not", x.hid(1), 0);
        x.forget();
        x.seen(0, 0, 7);
        Make.retype(x, 1, "0-");
        Due.is("hid(0), who is SHORT", x.hid(0), 53);
    }

    private static void hidFrom0ToOnesPurse() {
        Due.sentence("Terms 4: HID: (0 to one's PURSE)");
        for (int purse : new int[] {1, 50, 99}) {
            RichestPays x = Make.with(String.format("%02d10;0010", purse), "00");
            x.seen(0, 0, 0);
            Due.is("hid(0), all of " + purse, x.hid(0), purse);
            Due.is("hid(1), nothing in the PURSE", x.hid(1), NONE);
            x.home(0, purse);
            Due.is("hid(1), nothing hidden", x.hid(1), 0);
        }
        RichestPays x = Make.with("0010", "0");
        x.seen(0, 0, 0);
        Due.is("hid(0) of PURSE 0", x.hid(0), 0);
        x.seen(0, 0, 1);
        Due.is("hid(0) of PURSE 0, who paid", x.hid(0), NONE);
    }

    private static void hidInPlaceOfWhatIsTold() {
        Due.sentence("Terms 4: HID: what one must have left at HOME, in place of what is told");
        RichestPays x = Make.with("6010;5010", "00");
        x.seen(0, 0, 20);
        x.home(0, 60);
        Due.is("unlike()", x.unlike(), 1);
        Due.is("hid(0)", x.hid(0), 0);
        Due.is("hid(1), as the other's HOME is told", x.hid(1), NONE);
        Due.is("unlike() behind", x.unlike(), 1);
        Due.is("home(0, 0), as it was", x.home(0, 0), 60);
        Due.is("hid(1) by another HOME", x.hid(1), 0);
    }

    private static void hidNone() {
        Due.sentence("23: HID; NONE");
        RichestPays x = Make.with("6010;5010", "00");
        x.seen(0, 0, 19);
        Due.is("hid(0) of no such sum", x.hid(0), NONE);
        x.forget();
        x.seen(1, 0, 0);
        Due.is("hid(0) of no such ROUND", x.hid(0), NONE);
        x.forget();
        x.seen(0, 2, 0);
        Due.is("hid(0) of no such one", x.hid(0), NONE);
    }

    private static void hidAllSeen() {
        Due.sentence("Terms 4: HID: such that all SEEN come out so");
        RichestPays x = Make.with("6010;5010", "00;00");
        x.seen(0, 0, 20);
        Due.is("hid(0)", x.hid(0), 0);
        x.seen(1, 0, 20);
        Due.is("hid(0), who paid twice", x.hid(0), NONE);
        Due.is("hid(1), beside one who paid twice", x.hid(1), 10);
        x.seen(1, 1, 1);
        Due.is("hid(1), who paid a farthing", x.hid(1), NONE);
        x.forget();
        x.seen(1, 0, 15);
        x.seen(0, 0, 0);
        Due.is("hid(0), who had 15 in the second", x.hid(0), NONE);
        x.home(1, 20);
        Due.is("hid(0), who had 15 by then", x.hid(0), 45);
    }

    private static void hidBad() {
        Due.sentence("23: BAD");
        RichestPays x = Make.with("6010;5010", "00");
        for (int p : new int[] {-1, 2, 5, 6, Integer.MIN_VALUE, Integer.MAX_VALUE}) {
            Due.refused(x, "hid(" + p + ")", () -> x.hid(p), BAD);
        }
        Due.is("hid(0) of none", new RichestPays().hid(0), BAD);
    }

    // ---- luck

    private static void luck(int m, int h, int u, long above, long below) {
        RichestPays x = new RichestPays();
        String call = "luck(" + m + ", " + h + ", " + u + ", ";
        Due.is(call + "0)", x.luck(m, h, u, 0), above);
        Due.is(call + "1)", x.luck(m, h, u, 1), below);
    }

    private static void luckMoreThanEachOfThem() {
        Due.sentence("Terms 4: LUCK: 0 to u on HAND alike: the chance that one has more than each of them");
        luck(1, 0, 6, 0, 1);
        luck(1, 1, 6, 1, 7);
        luck(1, 6, 6, 6, 7);
        luck(1, 7, 6, 1, 1);
        luck(1, 99, 6, 1, 1);
        luck(2, 3, 6, 9, 49);
        luck(5, 1, 1, 1, 32);
        luck(5, 2, 1, 1, 1);
    }

    private static void luckOfNoOthers() {
        Due.sentence("Terms 4: LUCK: m others (0 to 5)");
        luck(0, 0, 1, 1, 1);
        luck(0, 0, 99, 1, 1);
        luck(0, 50, 99, 1, 1);
        luck(0, 99, 1, 1, 1);
    }

    private static void luckInLowestTerms() {
        Due.sentence("Terms 1: FRACTIONS are told in lowest terms, above and below (0 by 1)");
        for (int m = 1; m <= 5; m++) {
            luck(m, 0, 1, 0, 1);
            luck(m, 0, 99, 0, 1);
        }
        luck(1, 50, 99, 1, 2);
        luck(2, 40, 99, 4, 25);
        luck(3, 6, 8, 8, 27);
        luck(1, 98, 97, 1, 1);
        luck(5, 96, 95, 1, 1);
        luck(4, 48, 95, 1, 16);
        luck(1, 7, 90, 1, 13);
    }

    private static void luckUpToTheMost() {
        Due.sentence("Terms 4: LUCK: h (0 to 99), u (1 to 99), longs");
        luck(5, 99, 99, 9509900499L, 10000000000L);
        luck(5, 97, 99, 8587340257L, 10000000000L);
        luck(5, 99, 98, 1, 1);
        luck(5, 1, 99, 1, 10000000000L);
        luck(5, 98, 98, 9039207968L, 9509900499L);
    }

    private static void luckRefused() {
        Due.sentence("24: BAD. (A refusal -x is the least long and x more.)");
        RichestPays x = new RichestPays();
        int most = Integer.MAX_VALUE;
        int least = Integer.MIN_VALUE;
        int[][] wrong = {{6, 0, 1, 0}, {-1, 0, 1, 0}, {most, 0, 1, 0}, {least, 0, 1, 0},
            {0, 100, 1, 0}, {0, -1, 1, 0}, {0, most, 1, 0}, {0, least, 1, 0},
            {0, 0, 0, 0}, {0, 0, 100, 0}, {0, 0, -1, 0}, {0, 0, most, 0}, {0, 0, least, 0},
            {0, 0, 1, 2}, {0, 0, 1, -1}, {0, 0, 1, most}, {0, 0, 1, least}};
        for (int[] w : wrong) {
            String call = "luck(" + w[0] + ", " + w[1] + ", " + w[2] + ", " + w[3] + ")";
            Due.refused(x, call, () -> x.luck(w[0], w[1], w[2], w[3]), -9223372036854775806L);
        }
    }
}
