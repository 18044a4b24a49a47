/**
 * Each sentence on where to sit that names a boundary has a test of its own: Terms 3 and
 * promises 15 to 18.
 */
public final class EdgesOfSeatingTest {
    private static final int BAD = RichestPays.BAD, FULL = RichestPays.FULL, NONE = RichestPays.NONE;

    public static void main(String[] args) {
        bestOfLikeOnesToStayAway();
        bestTheLeastTable();
        bestTheLeastAtHome();
        bestFrom0ToOnesPurse();
        bestByTies();
        bestByHandsAtFirst();
        bestByHomesOfOthers();
        bestByEachLaw();
        bestOfOneWhoStaysAway();
        bestOthersAsTold();
        bestRefused();
        restNoneWouldHaveMore();
        restByWhatOnePays();
        restToStayAwayOrTables0To2();
        restHomesAsTold();
        restTheFirst();
        restNone();
        restByAnotherChoiceAlone();
        restOfNoneAndOfSix();
        restRefused();
        downIfItIsSo();
        downThreeRoundsAtMost();
        downFourPeopleAtMost();
        downAllSitSomewhere();
        downEachWayToPart();
        downJustSoMuch();
        downFromHandsAtFirst();
        downByLaws();
        downRefused();
        alikeIfItIsSo();
        alikeEachWayToPart();
        alikeThreeRoundsAtMost();
        alikeFourPeopleAtMost();
        alikeAllOfThem();
        alikeFromHandsAtFirst();
        Due.end("EdgesOfSeatingTest");
    }

    // ---- best

    private static void best(RichestPays x, int round, int person, int gain, int table, int home) {
        String call = "best(" + round + ", " + person + ", ";
        Due.is(call + "0)", x.best(round, person, 0), gain);
        Due.is(call + "1)", x.best(round, person, 1), table);
        Due.is(call + "2)", x.best(round, person, 2), home);
    }

    private static void bestOfLikeOnesToStayAway() {
        Due.sentence("Terms 3: BEST: WORTH (0, who stays away) less what one pays, of like ones to stay away");
        RichestPays x = Make.with("5010;9905", "00");
        x.worth(0, 0);
        best(x, 0, 0, 0, NONE, 0);
        x.worth(0, 1);
        best(x, 0, 0, 1, 0, 0);
        x.worth(1, 0);
        best(x, 0, 1, 0, NONE, 0);
        x.worth(1, 99);
        best(x, 0, 1, 99, 0, 49);
        Make.retype(x, 0, "0000;0000");
        x.worth(0, 0);
        best(x, 0, 0, 0, NONE, 0);
    }

    private static void bestTheLeastTable() {
        Due.sentence("Terms 3: chooses a TABLE (0 to 5; that told, too): then the least TABLE");
        for (int table = 0; table < 6; table++) {
            RichestPays x = Make.with("5010;9905", table + "0");
            best(x, 0, 0, 20, 0, 0);
            Make.retype(x, 1, table + "5");
            best(x, 0, 0, 20, 0, 50);
            Make.retype(x, 1, "0" + table);
            best(x, 0, 1, 20, 0, 49);
        }
    }

    private static void bestTheLeastAtHome() {
        Due.sentence("Terms 3: then the least at HOME");
        RichestPays x = Make.with("5010;3005", "00");
        best(x, 0, 0, 20, 0, 21);
        best(x, 0, 1, 20, 0, 0);
        Make.retype(x, 0, "5000;3000");
        best(x, 0, 0, 20, 0, 0);
        Make.retype(x, 0, "5010;0005");
        best(x, 0, 0, 20, 0, 50);
        Make.retype(x, 0, "3110;3005");
        best(x, 0, 0, 20, 0, 2);
    }

    private static void bestFrom0ToOnesPurse() {
        Due.sentence("Terms 3: and how much of one's PURSE to leave at HOME");
        for (int purse : new int[] {0, 1, 50, 99}) {
            RichestPays x = Make.with(String.format("%02d10", purse), "0");
            best(x, 0, 0, 20, 0, purse);
            Make.retype(x, 0, String.format("%02d00", purse));
            best(x, 0, 0, 20, 0, 0);
        }
    }

    private static void bestByTies() {
        Due.sentence("Terms 3: BEST, by TIES");
        RichestPays x = Make.with("5010;5005;5001", "000");
        best(x, 0, 0, 20, 0, 1);
        best(x, 0, 1, 20, 0, 0);
        x.set(1, 1);
        best(x, 0, 0, 20, 0, 0);
        best(x, 0, 2, 20, 0, 1);
    }

    private static void bestByHandsAtFirst() {
        Due.sentence("Terms 3: one of them, at first (HANDS as PURSES and HOMES are)");
        RichestPays x = Make.with("5010;4030", "00;00;00");
        for (int round = 0; round < 3; round++) {
            best(x, round, 0, 20, 0, 11);
            best(x, round, 1, 20, 0, 0);
        }
    }

    private static void bestByHomesOfOthers() {
        Due.sentence("Terms 3: HANDS as PURSES and HOMES are; one's own HOME is chosen");
        RichestPays x = Make.with("5010;4030", "00");
        x.home(1, 15);
        best(x, 0, 0, 20, 0, 26);
        x.home(0, 40);
        best(x, 0, 0, 20, 0, 26);
        x.home(1, 99);
        best(x, 0, 0, 20, 0, 50);
        best(x, 0, 1, 20, 0, 30);
        Due.is("home(0, 0) as told", x.home(0, 0), 40);
    }

    private static void bestByEachLaw() {
        Due.sentence("Terms 3: BEST, by LAW");
        RichestPays x = Make.with("5010;4007;3003", "000");
        x.set(0, 1);
        best(x, 0, 0, 20, 0, 21);
        best(x, 0, 1, 20, 0, 11);
        best(x, 0, 2, 20, 0, 0);
        x.set(0, 2);
        best(x, 0, 0, 20, 0, 50);
        Make.retype(x, 0, "5000;4007;3003");
        best(x, 0, 0, 20, 0, 0);
        // by halves of a total of 1 the richest pays nothing, so that all may be taken along
        x.set(0, 1);
        Make.retype(x, 0, "5001;4000;3000");
        best(x, 0, 0, 20, 0, 0);
    }

    private static void bestOfOneWhoStaysAway() {
        Due.sentence("Terms 3: all sit in a ROUND as told; one of them, of PEOPLE");
        RichestPays x = Make.with("5010;4030", "-0;--");
        best(x, 0, 0, 20, 0, 11);
        best(x, 1, 0, 20, 0, 50);
        x.worth(0, 0);
        best(x, 0, 0, 0, NONE, 0);
    }

    private static void bestOthersAsTold() {
        Due.sentence("Terms 3: all sit in a ROUND as told");
        RichestPays x = Make.with("5010;4030;2001", "000;001;010;011;0--");
        int[] homes = {11, 11, 31, 50, 50};
        for (int round = 0; round < 5; round++) {
            best(x, round, 0, 20, 0, homes[round]);
        }
    }

    private static void bestRefused() {
        Due.sentence("15: BAD: -100002");
        RichestPays x = Make.with("5010;4030", "00;0-");
        int most = Integer.MAX_VALUE;
        int least = Integer.MIN_VALUE;
        int[][] wrong = {{2, 0, 0}, {-1, 0, 0}, {8, 0, 0}, {most, 0, 0}, {least, 0, 0},
            {0, 2, 0}, {0, -1, 0}, {0, 6, 0}, {0, most, 0}, {0, least, 0},
            {0, 0, 3}, {0, 0, -1}, {0, 0, most}, {0, 0, least}};
        for (int[] w : wrong) {
            String call = "best(" + w[0] + ", " + w[1] + ", " + w[2] + ")";
            Due.refused(x, call, () -> x.best(w[0], w[1], w[2]), -100002);
        }
        Due.is("best(0, 0, 0) of none", new RichestPays().best(0, 0, 0), -100002);
    }

    // ---- rest

    private static void rests(RichestPays x, int rows, int... tables) {
        Due.is("rest(NONE)", x.rest(NONE), rows);
        for (int p = 0; p < tables.length; p++) {
            Due.is("rest(" + p + ")", x.rest(p), tables[p]);
        }
    }

    private static void restNoneWouldHaveMore() {
        Due.sentence("Terms 3: REST: rows by which none would have more, of as much each is one");
        RichestPays x = Make.with("9920", "");
        x.worth(0, 19);
        rests(x, 1, NONE);
        x.worth(0, 20);
        rests(x, 4, NONE);
        x.worth(0, 21);
        rests(x, 3, 0);
    }

    private static void restByWhatOnePays() {
        Due.sentence("Terms 3: REST: (WORTH less what one pays), not what one is to pay");
        RichestPays x = Make.with("0520", "");
        x.worth(0, 4);
        rests(x, 1, NONE);
        x.worth(0, 5);
        rests(x, 4, NONE);
        x.worth(0, 6);
        rests(x, 3, 0);
    }

    private static void restToStayAwayOrTables0To2() {
        Due.sentence("Terms 3: REST: each to stay away or a TABLE from 0 to 2");
        RichestPays x = Make.with("0000", "5");
        rests(x, 3, 0);
        x.worth(0, 0);
        rests(x, 4, NONE);
        Make.retype(x, 0, "9900;9900");
        x.worth(1, 1);
        rests(x, 12, NONE, 0);
        x.worth(0, 1);
        rests(x, 9, 0, 0);
    }

    private static void restHomesAsTold() {
        Due.sentence("Terms 3: REST: at first (HOMES as told)");
        RichestPays x = Make.with("9950", "0;0");
        rests(x, 1, NONE);
        x.home(0, 79);
        rests(x, 4, NONE);
        x.home(0, 80);
        rests(x, 3, 0);
        x.home(0, 78);
        rests(x, 1, NONE);
    }

    private static void restTheFirst() {
        Due.sentence("Terms 3: REST: the first (to stay away is ahead of TABLE 0; by PEOPLE 0 on)");
        // the one who pays sits apart from the one who cannot
        RichestPays x = Make.with("9901;0030", "");
        x.worth(0, 40);
        rests(x, 6, 0, 1);
        Make.retype(x, 0, "0030;9901");
        x.worth(1, 40);
        rests(x, 6, 0, 1);
        RichestPays y = Make.with("9920;9920", "");
        y.set(0, 2);
        rests(y, 16, NONE, NONE);
        y.worth(0, 21);
        rests(y, 12, 0, NONE);
        y.worth(0, 20);
        y.worth(1, 21);
        rests(y, 12, NONE, 0);
    }

    private static void restNone() {
        Due.sentence("16: the TABLE of one by the first (NONE: .. or there is none)");
        RichestPays x = Make.with("3015;2015", "");
        rests(x, 0, NONE, NONE);
    }

    private static void restByAnotherChoiceAlone() {
        Due.sentence("Terms 3: REST: by another choice alone");
        // by halves the first gains where the other sits, who gains alone: one always moves
        RichestPays x = Make.with("9930;9900", "");
        x.set(0, 1);
        rests(x, 0, NONE, NONE);
        // at a WORTH of 15 it is as well to stay away as to join the other one for 15
        x.worth(0, 15);
        rests(x, 3, NONE, 0);
        x.worth(0, 16);
        rests(x, 0, NONE, NONE);
    }

    private static void restOfNoneAndOfSix() {
        Due.sentence("Terms 3: REST, of PEOPLE none and of six");
        rests(new RichestPays(), 1);
        RichestPays x = Make.with("0099;0099;0099;0099;0099;0099", "");
        rests(x, 729, 0, 0, 0, 0, 0, 0);
        x.worth(5, 0);
        rests(x, 243 * 4, 0, 0, 0, 0, 0, NONE);
    }

    private static void restRefused() {
        Due.sentence("16: BAD");
        RichestPays x = Make.with("5010;4030", "00");
        for (int p : new int[] {-2, 2, 5, 6, Integer.MIN_VALUE, Integer.MAX_VALUE}) {
            Due.refused(x, "rest(" + p + ")", () -> x.rest(p), BAD);
        }
        Due.is("rest(0) of none", new RichestPays().rest(0), BAD);
    }

    // ---- down

    private static void down(String people, int person, int v, int due) {
        RichestPays x = Make.with(people, "");
        Due.is("down(" + person + ", " + v + ") of " + people, x.down(person, v), due);
    }

    private static void downIfItIsSo() {
        Due.sentence("Terms 3: DOWN: (0, if it is so.)");
        down("5010", 0, 50, 0);
        down("0000", 0, 0, 0);
        down("9910", 0, 99, 0);
        down("5010;9901;9901;4010", 3, 40, 0);
    }

    private static void downThreeRoundsAtMost() {
        Due.sentence("Terms 3: DOWN: by any ROUNDS, 3 at most: the fewest; NONE");
        for (int law = 0; law <= 2; law++) {
            RichestPays x = Make.with("9910", "");
            x.set(0, law);
            for (int k = 0; k <= 3; k++) {
                Due.is("down(0, " + (99 - 10 * k) + ")", x.down(0, 99 - 10 * k), k);
            }
            Due.is("down(0, 59)", x.down(0, 59), NONE);
        }
        // by 3 ROUNDS of 10 or 15 each all sums of them, by 4 others
        RichestPays x = Make.with("9910;0105", "");
        int[][] due = {{89, 1}, {84, 1}, {79, 2}, {74, 2}, {69, 2}, {64, 3}, {59, 3}, {54, 3},
            {49, NONE}};
        for (int[] d : due) {
            Due.is("down(0, " + d[0] + ")", x.down(0, d[0]), d[1]);
        }
    }

    private static void downFourPeopleAtMost() {
        Due.sentence("Terms 3: DOWN: of 4 PEOPLE at most (else FULL)");
        String people = "5010;4010;3010;2010;1010;0010";
        for (int n = 1; n <= 6; n++) {
            RichestPays x = Make.with(people.substring(0, 5 * n - 1), "");
            Due.is("down(0, 50) of " + n, x.down(0, 50), n > 4 ? FULL : 0);
            Due.is("down(0, 40) of " + n, x.down(0, 40), n > 4 ? FULL : 1);
            Due.is("down(" + (n - 1) + ", 99) of " + n, x.down(n - 1, 99), n > 4 ? FULL : NONE);
        }
        Due.is("down(0, 0) of none", new RichestPays().down(0, 0), BAD);
    }

    private static void downAllSitSomewhere() {
        Due.sentence("Terms 3: DOWN: all sitting somewhere");
        RichestPays x = Make.with("5010;4001", "");
        // the first has 50 no more behind the least that is eaten, and none may stay away
        Due.is("down(1, 40)", x.down(1, 40), 0);
        Due.is("down(1, 39)", x.down(1, 39), 1);
        Due.is("down(1, 38)", x.down(1, 38), 2);
        Due.is("down(1, 37)", x.down(1, 37), 3);
        Due.is("down(1, 29)", x.down(1, 29), 2);
        Due.is("down(1, 36)", x.down(1, 36), NONE);
        RichestPays y = Make.with("5010;4999", "");
        // if one could stay away: 50 less 2 times 10 by 2, and 49 as it was
        Due.is("down(0, 30)", y.down(0, 30), 2);
        Due.is("alike()", y.alike(), 2);
    }

    private static void downEachWayToPart() {
        Due.sentence("Terms 3: DOWN: (each way to part them into TABLES)");
        // the richest pays for those who sit with him: APPETITES tell who it is
        RichestPays x = Make.with("9901;0102;0104;0108", "");
        for (int others = 0; others < 8; others++) {
            int sum = 1 + 2 * others;
            Due.is("down(0, " + (99 - sum) + ")", x.down(0, 99 - sum), 1);
        }
        for (int even = 2; even <= 30; even += 2) {
            Due.is("down(0, " + (99 - even) + ")", x.down(0, 99 - even), 2);
        }
        // 2 TABLES of two: both pay for another one
        RichestPays y = Make.with("9901;9902;0004;0008", "");
        Due.is("down(1, 93), with the third", y.down(1, 93), 1);
        Due.is("down(1, 89), with the fourth", y.down(1, 89), 1);
        Due.is("down(1, 85), with both", y.down(1, 85), 1);
    }

    private static void downJustSoMuch() {
        Due.sentence("Terms 3: DOWN: just so much on HAND (0 to 99)");
        down("1510", 0, 5, 1);
        down("1510", 0, 4, NONE);
        down("1510", 0, 6, NONE);
        down("1510", 0, 0, 2);
        down("3010", 0, 0, 3);
        down("3110", 0, 0, NONE);
        down("3110", 0, 1, 3);
        down("9900", 0, 98, NONE);
    }

    private static void downFromHandsAtFirst() {
        Due.sentence("Terms 3: DOWN: from HANDS at first");
        RichestPays x = Make.with("5010;0000", "00;00");
        x.home(0, 15);
        Due.is("down(0, 50)", x.down(0, 50), NONE);
        Due.is("down(0, 35)", x.down(0, 35), 0);
        Due.is("down(0, 25)", x.down(0, 25), 1);
        Due.is("down(0, 5)", x.down(0, 5), 3);
        Due.is("down(0, 0)", x.down(0, 0), NONE);
        x.home(0, 50);
        Due.is("down(0, 0) with all at HOME", x.down(0, 0), 0);
    }

    private static void downByLaws() {
        Due.sentence("Terms 3: DOWN, by LAW and TIES");
        RichestPays x = Make.with("5003;5004", "");
        Due.is("down(0, 43) by LAW 0", x.down(0, 43), 1);
        Due.is("down(1, 43) by LAW 0", x.down(1, 43), 2);
        x.set(1, 1);
        Due.is("down(0, 43) by TIES 1", x.down(0, 43), 2);
        Due.is("down(1, 43) by TIES 1", x.down(1, 43), 1);
        x.set(0, 1);
        Due.is("down(1, 47) by LAW 1, TIES 1", x.down(1, 47), 1);
        Due.is("down(0, 46) by LAW 1, TIES 1", x.down(0, 46), 1);
        x.set(0, 2);
        Due.is("down(0, 43) by LAW 2", x.down(0, 43), NONE);
        Due.is("down(0, 41) by LAW 2", x.down(0, 41), 3);
    }

    private static void downRefused() {
        Due.sentence("17: BAD; FULL");
        int[][] wrong = {{5, 0}, {6, 0}, {-1, 0}, {Integer.MIN_VALUE, 0}, {Integer.MAX_VALUE, 0},
            {0, 100}, {0, -1}, {0, Integer.MIN_VALUE}, {0, Integer.MAX_VALUE}};
        RichestPays four = Make.with("5010;4010;3010;2010", "");
        RichestPays five = Make.with("5010;4010;3010;2010;1010", "");
        for (int[] w : wrong) {
            String call = "down(" + w[0] + ", " + w[1] + ")";
            Due.refused(four, call + " of four", () -> four.down(w[0], w[1]), BAD);
            Due.refused(five, call + " of five", () -> five.down(w[0], w[1]), BAD);
        }
        Due.is("down(4, 0) of four", four.down(4, 0), BAD);
        Due.is("down(4, 0) of five", five.down(4, 0), FULL);
        Due.is("down(3, 99) of four", four.down(3, 99), NONE);
    }

    // ---- alike

    private static void alike(String people, int due) {
        Due.is("alike() of " + people, Make.with(people, "").alike(), due);
    }

    private static void alikeIfItIsSo() {
        Due.sentence("Terms 3: ALIKE: (0, if it is so.)");
        alike("", 0);
        alike("0000", 0);
        alike("9999", 0);
        alike("5010;5099", 0);
        alike("5010;5020;5030;5040", 0);
        alike("5001;4801", 1);
        alike("5001;4901", NONE);
    }

    /**
     * One at each TABLE has what all eat there and 10 more, the others have 10: as no other sums
     * of APPETITES 1, 2, 4, 8 are like these, just this way makes all alike at once.
     */
    private static void eachWayToPart(String tables, int people) {
        if (tables.length() < people) {
            int next = tables.chars().map(c -> c - '0').max().orElse(-1) + 1;
            for (int table = 0; table <= next; table++) {
                eachWayToPart(tables + table, people);
            }
            return;
        }
        StringBuilder told = new StringBuilder();
        for (int p = 0; p < people; p++) {
            char table = tables.charAt(p);
            int sum = 10;
            for (int q = 0; q < people && tables.indexOf(table) == p; q++) {
                sum += tables.charAt(q) == table ? 1 << q : 0;
            }
            told.append(p == 0 ? "" : ";").append(sum).append('0').append(1 << p);
        }
        alike(told.toString(), 1);
    }

    private static void alikeEachWayToPart() {
        Due.sentence("Terms 3: ALIKE: (each way to part them into TABLES)");
        for (int people = 2; people <= 4; people++) {
            eachWayToPart("", people);
        }
    }

    private static void alikeThreeRoundsAtMost() {
        Due.sentence("Terms 3: ALIKE: 3 at most; NONE");
        alike("3000;2010", 1);
        alike("4000;2010", 2);
        alike("5000;2010", 3);
        alike("6000;2010", NONE);
    }

    private static void alikeFourPeopleAtMost() {
        Due.sentence("18: FULL; Terms 3: of 4 PEOPLE at most");
        alike("5000;5000;5000;5000", 0);
        alike("5000;5000;5000;5000;5000", FULL);
        alike("5000;5000;5000;5000;5000;5000", FULL);
        alike("5000;5000;5000;5000;5000;500", 0);
        alike("0000;0000;0000;0000;0000;0000", FULL);
    }

    private static void alikeAllOfThem() {
        Due.sentence("Terms 3: ALIKE: by which all have as much as one another");
        alike("5000;5000;5000;4900", NONE);
        alike("5000;5000;4900;5000", NONE);
        alike("5000;4900;5000;5000", NONE);
        alike("4900;5000;5000;5000", NONE);
        alike("2001;2102;2204;2408", NONE);
        alike("2101;2202;2404;2808", 1);
        alike("0599;0599;0000;0999", 1);
    }

    private static void alikeFromHandsAtFirst() {
        Due.sentence("Terms 3: ALIKE: from HANDS at first");
        RichestPays x = Make.with("9900;5010", "01;01");
        Due.is("alike()", x.alike(), NONE);
        x.home(0, 49);
        Due.is("alike() with HOME", x.alike(), 0);
        x.home(0, 39);
        Due.is("alike() with less at HOME", x.alike(), 1);
        x.home(1, 1);
        x.home(0, 39);
        Due.is("alike() with 1 at HOME", x.alike(), NONE);
    }
}
