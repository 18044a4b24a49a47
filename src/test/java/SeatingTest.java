/** Promises 15 to 18: best, rest, down, alike. */
public final class SeatingTest {
    public static void main(String[] args) {
        best();
        bestTable();
        bestRefused();
        rest();
        restEdges();
        down();
        downLaws();
        alike();
        Due.end("SeatingTest");
    }

    private static void best(RichestPays x, int round, int person, int gain, int table, int home) {
        String call = "best(" + round + ", " + person + ", ";
        Due.is(call + "0)", x.best(round, person, 0), gain);
        Due.is(call + "1)", x.best(round, person, 1), table);
        Due.is(call + "2)", x.best(round, person, 2), home);
    }

    private static void best() {
        RichestPays x = Make.with("9905;5007;5003;0409", "0001;0-10");
        best(x, 0, 0, 20, 0, 50);
        best(x, 1, 3, 20, 0, 0);
        best(x, 1, 0, 20, 0, 96);
        x.set(1, 1);
        best(x, 0, 0, 20, 0, 49);
        x.set(1, 0);
        x.home(1, 30);
        x.home(2, 30);
        best(x, 0, 0, 20, 0, 80);
        x.worth(0, 0);
        best(x, 0, 0, 0, RichestPays.NONE, 0);
        x.set(0, 2);
        x.worth(0, 6);
        best(x, 0, 0, 6, 0, 99);
    }

    private static void bestTable() {
        RichestPays x = Make.with("5010;1010;6010", "012");
        // with all at HOME one eats for nothing at TABLE 0, however good TABLE 2 would be
        best(x, 0, 0, 20, 0, 50);
        best(x, 0, 1, 20, 0, 0);
        x.home(2, 60);
        best(x, 0, 0, 20, 0, 50);
        RichestPays y = Make.with("5010", "5;-");
        best(y, 0, 0, 20, 0, 50);
        best(y, 1, 0, 20, 0, 50);
        // what is told to be at HOME does not count for the one who chooses
        y.home(0, 50);
        best(y, 0, 0, 20, 0, 50);
        // of like TABLES the least one, wherever one sits as told
        RichestPays z = Make.with("3020;9905", "11");
        best(z, 0, 0, 20, 0, 30);
        z.worth(0, 50);
        best(z, 0, 0, 50, 0, 30);
    }

    private static void bestRefused() {
        RichestPays x = Make.with("9905;5007", "01");
        int bad = -100002;
        Due.refused(x, "best(1, 0, 0)", () -> x.best(1, 0, 0), bad);
        Due.refused(x, "best(-1, 0, 0)", () -> x.best(-1, 0, 0), bad);
        Due.refused(x, "best(0, 2, 0)", () -> x.best(0, 2, 0), bad);
        Due.refused(x, "best(0, -1, 1)", () -> x.best(0, -1, 1), bad);
        Due.refused(x, "best(0, 0, 3)", () -> x.best(0, 0, 3), bad);
        Due.refused(x, "best(0, 0, -1)", () -> x.best(0, 0, -1), bad);
    }

    private static void rests(RichestPays x, int rows, int... tables) {
        Due.is("rest(NONE)", x.rest(-1), rows);
        for (int p = 0; p < tables.length; p++) {
            Due.is("rest(" + p + ")", x.rest(p), tables[p]);
        }
    }

    private static void rest() {
        // each pays one's own: who gains sits anywhere, who would lose stays away
        RichestPays x = Make.with("9905;5030", "");
        x.set(0, 2);
        rests(x, 3, 0, -1);
        x.worth(1, 30);
        rests(x, 12, 0, -1);
        x.worth(1, 31);
        rests(x, 9, 0, 0);
        // the richer one always pays: he flees, the other follows
        RichestPays y = Make.with("3015;2015", "");
        rests(y, 0, -1, -1);
        y.worth(0, 50);
        rests(y, 0, -1, -1);
        Make.retype(y, 0, "0015;0015");
        rests(y, 9, 0, 0);
        Make.retype(y, 0, "3015;2015");
        rests(y, 0, -1, -1);
        // one with empty hands eats for nothing anywhere
        Make.retype(y, 0, "0015");
        rests(y, 3, 0);
        y.home(0, 9);
        rests(y, 3, 0);
        Make.retype(y, 0, "9950");
        rests(y, 4, -1);
        y.worth(0, 49);
        rests(y, 1, -1);
        y.home(0, 90);
        y.worth(0, 10);
        rests(y, 3, 0);
    }

    private static void restEdges() {
        RichestPays x = new RichestPays();
        Due.is("rest(NONE) of none", x.rest(-1), 1);
        Due.is("rest(0) of none", x.rest(0), RichestPays.BAD);
        RichestPays y = Make.with("0015;0015;0015;0015;0015;0015", "");
        rests(y, 729, 0, 0, 0, 0, 0, 0);
        for (int p = 0; p < 6; p++) {
            y.worth(p, 0);
        }
        rests(y, 4096, -1, -1, -1, -1, -1, -1);
        Due.refused(y, "rest(6)", () -> y.rest(6), RichestPays.BAD);
        Due.refused(y, "rest(-2)", () -> y.rest(-2), RichestPays.BAD);
    }

    private static void down() {
        RichestPays x = Make.with("5010;3010", "");
        Due.is("down(0, 50)", x.down(0, 50), 0);
        Due.is("down(0, 40)", x.down(0, 40), 1);
        Due.is("down(0, 30)", x.down(0, 30), 1);
        Due.is("down(0, 20)", x.down(0, 20), 2);
        Due.is("down(0, 10)", x.down(0, 10), 2);
        Due.is("down(0, 0)", x.down(0, 0), 3);
        Due.is("down(0, 45)", x.down(0, 45), RichestPays.NONE);
        Due.is("down(0, 60)", x.down(0, 60), RichestPays.NONE);
        Due.is("down(1, 0)", x.down(1, 0), 3);
        Make.retype(x, 0, "5010;3111");
        Due.is("down(0, 50), beside an odd sum", x.down(0, 50), 0);
        Make.retype(x, 0, "5010");
        Due.is("down(0, 40) of one", x.down(0, 40), 1);
        Due.is("down(0, 20) of one", x.down(0, 20), 3);
        Due.is("down(0, 10) of one", x.down(0, 10), RichestPays.NONE);
        Make.retype(x, 0, "5010;3010");
        x.home(0, 45);
        Due.is("down(0, 5)", x.down(0, 5), 0);
        Due.is("down(0, 0) by a SHORT one", x.down(0, 0), 1);
        Due.refused(x, "down(2, 0)", () -> x.down(2, 0), RichestPays.BAD);
        Due.refused(x, "down(-1, 0)", () -> x.down(-1, 0), RichestPays.BAD);
        Due.refused(x, "down(0, 100)", () -> x.down(0, 100), RichestPays.BAD);
        Due.refused(x, "down(0, -1)", () -> x.down(0, -1), RichestPays.BAD);
        Make.type(x, 0, ";1010;1010");
        Due.is("down(3, 10) of four", x.down(3, 10), 0);
        Make.type(x, 0, ";1010");
        Due.refused(x, "down(0, 50) of five", () -> x.down(0, 50), RichestPays.FULL);
        Due.refused(x, "down(5, 50) of five", () -> x.down(5, 50), RichestPays.BAD);
        Due.refused(x, "alike() of five", () -> x.alike(), RichestPays.FULL);
    }

    private static void downLaws() {
        // APPETITES by which each sum tells who sat together
        RichestPays x = Make.with("9901;2002;2004;2008", "");
        int[] sums = {1, 3, 5, 7, 9, 11, 13, 15};
        for (int sum : sums) {
            Due.is("down(0, " + (99 - sum) + ")", x.down(0, 99 - sum), 1);
        }
        Due.is("down(0, 97), twice alone", x.down(0, 97), 2);
        Due.is("down(0, 54), thrice all", x.down(0, 54), 3);
        Due.is("down(0, 53)", x.down(0, 53), RichestPays.NONE);
        Due.is("down(1, 14), with another there", x.down(1, 14), 1);
        Due.is("down(3, 6), when others have paid first", x.down(3, 6), 2);
        Due.is("down(3, 7)", x.down(3, 7), RichestPays.NONE);
        x.set(1, 1);
        Due.is("down(3, 6) by TIES", x.down(3, 6), 1);
        x.set(0, 1);
        Due.is("down(0, 92) by halves", x.down(0, 92), 1);
        x.set(0, 2);
        Due.is("down(0, 96), each one's own", x.down(0, 96), 3);
        Due.is("down(0, 95), each one's own", x.down(0, 95), RichestPays.NONE);
    }

    private static void alikeOf(String people, int want) {
        RichestPays x = Make.with(people, "");
        Due.is("alike() of " + people, x.alike(), want);
    }

    private static void alike() {
        alikeOf("", 0);
        alikeOf("5010", 0);
        alikeOf("2000;2000", 0);
        alikeOf("2000;2001", 0);
        alikeOf("2000;2100", RichestPays.NONE);
        alikeOf("2000;2003", 0);
        alikeOf("2010;3010;4010", 1);
        alikeOf("2010;3010;4010;5010", RichestPays.NONE);
        alikeOf("3505;2010", 1);
        alikeOf("4005;1010", 2);
        alikeOf("5505;1010", 3);
        alikeOf("7005;1010", RichestPays.NONE);
        RichestPays x = Make.with("7005;1010", "");
        x.home(0, 60);
        Due.is("alike() with HOME", x.alike(), 0);
        Make.retype(x, 0, "0000;0000;0000;0000;0000");
        Due.is("alike() of five", x.alike(), RichestPays.FULL);
    }
}
