import java.math.BigInteger;

/**
 * Each sentence on sheets, counts and the digest that names a boundary has a test of its own:
 * Terms 1 (SHEETS, FINDINGS) and promises 25 to 32.
 */
public final class EdgesOfSheetsTest {
    private static final int BAD = RichestPays.BAD, NONE = RichestPays.NONE;
    private static final int NULL = -11, INDEX = -12, CAST = -13, STORE = -14, SIZE = -15;
    private static final int LEAST = Integer.MIN_VALUE, MOST = Integer.MAX_VALUE;

    public static void main(String[] args) {
        sheetsFrom0To3();
        itemsFrom0To48();
        itemsAre0AtFirst();
        formsFrom0To2();
        sheetBadAheadOfSize();
        sizeBelow0();
        loseTellsHowMany();
        loseRefused();
        bytesKeepTheLowestBits();
        shortsKeepTheLowestBits();
        intsKeepAllBits();
        putItemsThatThereAre();
        putRefusals();
        getRefusals();
        findingsAreToldByCount8();
        copyFromTo();
        copyAsTheyWere();
        copyOfNoItems();
        copyOfAllItems();
        copyRefusals();
        copyRefusalsInOrder();
        writeAsManyAsThereAre();
        writeBehindKRounds();
        writeByForm();
        writeRefusals();
        counts();
        countOfMeals();
        countRefused();
        digestOfNone();
        digestInItsOrder();
        digestOfDown();
        digestWraps();
        digestChangesNothing();
        Due.end("EdgesOfSheetsTest");
    }

    private static void items(RichestPays x, int s, int form, int... due) {
        for (int i = 0; i < due.length; i++) {
            Due.is("get(" + s + ", " + form + ", " + i + ")", x.get(s, form, i), due[i]);
        }
        Due.is("lose(" + s + ")", x.lose(s), due.length);
    }

    private static void is(RichestPays x, String call, int got, int due, int latest) {
        Due.is(call, got, due);
        Due.is("count(8) behind " + call, x.count(8), latest);
    }

    // ---- sheet, lose

    private static void sheetsFrom0To3() {
        Due.sentence("Terms 1: SHEETS 0 .. 3; 25: BAD: SHEET");
        RichestPays x = new RichestPays();
        for (int s = 0; s <= 3; s++) {
            Due.is("sheet(" + s + ", 2, 5)", x.sheet(s, 2, 5 + s), 5 + s);
        }
        for (int s : new int[] {-1, 4, LEAST, MOST}) {
            is(x, "sheet(" + s + ", 2, 5)", x.sheet(s, 2, 5), BAD, 0);
        }
        for (int s = 0; s <= 3; s++) {
            Due.is("lose(" + s + ")", x.lose(s), 5 + s);
        }
    }

    private static void itemsFrom0To48() {
        Due.sentence("Terms 1: of 0 to 48 items; 25: n; BAD: above 48");
        for (int form = 0; form <= 2; form++) {
            for (int n : new int[] {0, 1, 47, 48}) {
                RichestPays x = new RichestPays();
                Due.is("sheet(0, " + form + ", " + n + ")", x.sheet(0, form, n), n);
                is(x, "put() behind the last", x.put(0, form, n, 1), INDEX, 2);
                if (n > 0) {
                    Due.is("put() of the last", x.put(0, form, n - 1, 9), 1);
                    Due.is("get() of the last", x.get(0, form, n - 1), 9);
                }
                Due.is("lose(0)", x.lose(0), n);
            }
            RichestPays x = new RichestPays();
            is(x, "sheet(0, " + form + ", 49)", x.sheet(0, form, 49), BAD, 0);
            is(x, "sheet(0, " + form + ", most)", x.sheet(0, form, MOST), BAD, 0);
            is(x, "lose(0), never made", x.lose(0), NULL, 1);
        }
    }

    private static void itemsAre0AtFirst() {
        Due.sentence("Terms 1: (0 at first); 25: A SHEET is a new row");
        RichestPays x = new RichestPays();
        x.sheet(0, 0, 3);
        items(x, 0, 0, 0, 0, 0);
        Make.row(x, 0, 7, 8, 9);
        x.sheet(0, 2, 3);
        items(x, 0, 2, 0, 0, 0);
        Make.row(x, 0, 7, 8, 9);
        x.lose(0);
        x.sheet(0, 2, 4);
        items(x, 0, 2, 0, 0, 0, 0);
        Make.row(x, 0, 7, 8, 9);
        x.sheet(0, 2, 0);
        x.sheet(0, 2, 3);
        items(x, 0, 2, 0, 0, 0);
        x.sheet(0, 2, 48);
        x.put(0, 2, 47, 9);
        x.sheet(0, 2, 48);
        Due.is("get(0, 2, 47)", x.get(0, 2, 47), 0);
        Make.row(x, 0, 7, 8, 9);
        x.sheet(1, 2, 3);
        items(x, 1, 2, 0, 0, 0);
        items(x, 0, 2, 7, 8, 9);
    }

    private static void formsFrom0To2() {
        Due.sentence("Terms 1: a row of a FORM: 0 bytes, 1 shorts, 2 ints; 25: BAD: FORM");
        for (int form = 0; form <= 2; form++) {
            RichestPays x = new RichestPays();
            Due.is("sheet(0, " + form + ", 2)", x.sheet(0, form, 2), 2);
            for (int other = 0; other <= 2; other++) {
                Due.is("put as of " + other, x.put(0, other, 0, 5), other == form ? 1 : CAST);
            }
        }
        RichestPays x = new RichestPays();
        for (int form : new int[] {-1, 3, LEAST, MOST}) {
            is(x, "sheet(0, " + form + ", 2)", x.sheet(0, form, 2), BAD, 0);
        }
    }

    private static void sheetBadAheadOfSize() {
        Due.sentence("25: BAD: SHEET, FORM, above 48; SIZE, the first that fits");
        RichestPays x = new RichestPays();
        x.sheet(0, 1, 2);
        is(x, "sheet(4, 0, -1)", x.sheet(4, 0, -1), BAD, 0);
        is(x, "sheet(-1, 0, -1)", x.sheet(-1, 0, -1), BAD, 0);
        is(x, "sheet(0, 3, -1)", x.sheet(0, 3, -1), BAD, 0);
        is(x, "sheet(0, -1, -1)", x.sheet(0, -1, -1), BAD, 0);
        is(x, "sheet(0, 2, 49)", x.sheet(0, 2, 49), BAD, 0);
        is(x, "sheet(0, 2, -1)", x.sheet(0, 2, -1), SIZE, 5);
        items(x, 0, 1, 0, 0);
    }

    private static void sizeBelow0() {
        Due.sentence("Terms 1: FINDINGS: 5 SIZE: below 0");
        RichestPays x = new RichestPays();
        Make.row(x, 0, 7, 8);
        is(x, "sheet(0, 2, 0)", x.sheet(1, 2, 0), 0, 0);
        is(x, "sheet(0, 2, -1)", x.sheet(0, 2, -1), SIZE, 5);
        is(x, "sheet(0, 2, least)", x.sheet(0, 2, LEAST), SIZE, 5);
        is(x, "sheet(3, 2, -1)", x.sheet(3, 2, -1), SIZE, 5);
        items(x, 0, 2, 7, 8);
        Due.is("lose(3), never made", x.lose(3), NULL);
    }

    private static void loseTellsHowMany() {
        Due.sentence("26: It is LOST: how many items it had");
        for (int n : new int[] {0, 1, 48}) {
            RichestPays x = new RichestPays();
            x.sheet(2, 1, n);
            Due.is("lose(2)", x.lose(2), n);
            is(x, "lose(2) again", x.lose(2), NULL, 1);
            Due.is("put()", x.put(2, 1, 0, 0), NULL);
            Due.is("sheet(2, 0, 1)", x.sheet(2, 0, 1), 1);
            Due.is("lose(2)", x.lose(2), 1);
        }
    }

    private static void loseRefused() {
        Due.sentence("26: BAD; NULL");
        RichestPays x = new RichestPays();
        for (int s : new int[] {-1, 4, LEAST, MOST}) {
            is(x, "lose(" + s + ")", x.lose(s), BAD, 0);
        }
        is(x, "lose(3)", x.lose(3), NULL, 1);
    }

    // ---- put, get

    private static void kept(int form, int v, int due) {
        RichestPays x = new RichestPays();
        x.sheet(0, form, 3);
        Due.is("put(0, " + form + ", 1, " + v + ")", x.put(0, form, 1, v), 1);
        items(x, 0, form, 0, due, 0);
        Due.is("count(8)", x.count(8), 0);
    }

    private static void bytesKeepTheLowestBits() {
        Due.sentence("27: becomes v (the lowest bits that it has, with its sign), of bytes");
        int[][] due = {{0, 0}, {127, 127}, {128, -128}, {255, -1}, {256, 0}, {-1, -1},
            {-128, -128}, {-129, 127}, {384, -128}, {32767, -1}, {32768, 0}, {MOST, -1},
            {LEAST, 0}, {99, 99}};
        for (int[] d : due) {
            kept(0, d[0], d[1]);
        }
    }

    private static void shortsKeepTheLowestBits() {
        Due.sentence("27: becomes v (the lowest bits that it has, with its sign), of shorts");
        int[][] due = {{0, 0}, {128, 128}, {32767, 32767}, {32768, -32768}, {65535, -1},
            {65536, 0}, {-32768, -32768}, {-32769, 32767}, {MOST, -1}, {LEAST, 0}};
        for (int[] d : due) {
            kept(1, d[0], d[1]);
        }
    }

    private static void intsKeepAllBits() {
        Due.sentence("27: becomes v (the lowest bits that it has, with its sign), of ints");
        for (int v : new int[] {0, -1, 32768, 65536, -32769, MOST, LEAST}) {
            kept(2, v, v);
        }
    }

    private static void putItemsThatThereAre() {
        Due.sentence("27: Item i of it becomes v: 1; INDEX: there is no such item");
        for (int n : new int[] {0, 1, 3, 48}) {
            RichestPays x = new RichestPays();
            x.sheet(0, 2, n);
            for (int i = 0; i < n; i++) {
                Due.is("put(0, 2, " + i + ", ..)", x.put(0, 2, i, 100 + i), 1);
            }
            for (int i : new int[] {-1, n, 48, LEAST, MOST}) {
                is(x, "put(0, 2, " + i + ", 1) of " + n, x.put(0, 2, i, 1), INDEX, 2);
                is(x, "get(0, 2, " + i + ") of " + n, x.get(0, 2, i), LEAST, 2);
            }
            for (int i = 0; i < n; i++) {
                Due.is("get(0, 2, " + i + ")", x.get(0, 2, i), 100 + i);
            }
        }
    }

    private static void putRefusals() {
        Due.sentence("27: BAD; NULL; CAST; INDEX, the first that fits");
        RichestPays x = new RichestPays();
        x.sheet(0, 1, 2);
        int[][] due = {{4, 1, 0, BAD, 0}, {-1, 1, 0, BAD, 0}, {MOST, 1, 0, BAD, 0},
            {LEAST, 1, 0, BAD, 0}, {0, 3, 0, BAD, 0}, {0, -1, 0, BAD, 0}, {0, MOST, 0, BAD, 0},
            {0, LEAST, 0, BAD, 0}, {3, 3, 9, BAD, 0}, {3, 0, 9, NULL, 1}, {0, 0, 9, CAST, 3},
            {0, 2, -1, CAST, 3}, {0, 1, 2, INDEX, 2}, {0, 1, -1, INDEX, 2}, {0, 3, 9, BAD, 2}};
        for (int[] d : due) {
            String call = "put(" + d[0] + ", " + d[1] + ", " + d[2] + ", 5)";
            is(x, call, x.put(d[0], d[1], d[2], 5), d[3], d[4]);
        }
        items(x, 0, 1, 0, 0);
    }

    private static void getRefusals() {
        Due.sentence("28: BAD: the least int; so are NULL, CAST, INDEX (count() 8 tells)");
        RichestPays x = new RichestPays();
        x.sheet(0, 1, 2);
        int[][] due = {{4, 1, 0, 0}, {-1, 1, 0, 0}, {MOST, 1, 0, 0}, {LEAST, 1, 0, 0},
            {0, 3, 0, 0}, {0, -1, 0, 0}, {0, MOST, 0, 0}, {0, LEAST, 0, 0}, {3, 3, 9, 0},
            {3, 0, 9, 1}, {0, 0, 9, 3}, {0, 2, -1, 3}, {0, 1, 2, 2}, {0, 1, -1, 2}, {0, 3, 9, 2},
            {4, 1, 0, 2}};
        for (int[] d : due) {
            String call = "get(" + d[0] + ", " + d[1] + ", " + d[2] + ")";
            is(x, call, x.get(d[0], d[1], d[2]), LEAST, d[3]);
        }
        items(x, 0, 1, 0, 0);
    }

    private static void findingsAreToldByCount8() {
        Due.sentence("Terms 1: FINDINGS (answers -10 less the number); 31: the latest FINDING");
        RichestPays x = new RichestPays();
        is(x, "nothing yet", 0, 0, 0);
        x.sheet(0, 0, 1);
        x.sheet(1, 1, 1);
        is(x, "NULL", x.lose(2), -11, 1);
        is(x, "INDEX", x.put(0, 0, 1, 0), -12, 2);
        is(x, "CAST", x.put(0, 1, 0, 0), -13, 3);
        is(x, "STORE", x.copy(0, 0, 1, 0, 1), -14, 4);
        is(x, "SIZE", x.sheet(2, 0, -1), -15, 5);
        is(x, "an answer", x.put(0, 0, 0, 7), 1, 5);
        is(x, "BAD", x.put(4, 0, 0, 7), BAD, 5);
        is(x, "NULL again", x.read(3), -11, 1);
        is(x, "STORE again", x.copy(1, 0, 0, 0, 0), -14, 4);
        items(x, 0, 0, 7);
        items(x, 1, 1, 0);
    }

    // ---- copy

    private static RichestPays fiveAndThree() {
        RichestPays x = new RichestPays();
        Make.row(x, 0, 1, 2, 3, 4, 5);
        Make.row(x, 1, 6, 7, 8);
        x.sheet(2, 1, 5);
        return x;
    }

    private static void copied(int[] c, int s, int... due) {
        RichestPays x = fiveAndThree();
        String call = "copy(" + c[0] + ", " + c[1] + ", " + c[2] + ", " + c[3] + ", " + c[4] + ")";
        is(x, call, x.copy(c[0], c[1], c[2], c[3], c[4]), 1, 0);
        items(x, s, 2, due);
        if (s == 1) {
            items(x, 0, 2, 1, 2, 3, 4, 5);
        }
    }

    private static void copyFromTo() {
        Due.sentence("29: n items of SHEET s, from i on, come to SHEET t, from j on: 1");
        copied(new int[] {0, 0, 1, 0, 1}, 1, 1, 7, 8);
        copied(new int[] {0, 4, 1, 2, 1}, 1, 6, 7, 5);
        copied(new int[] {0, 1, 1, 1, 2}, 1, 6, 2, 3);
        copied(new int[] {0, 2, 1, 0, 3}, 1, 3, 4, 5);
        copied(new int[] {1, 0, 0, 2, 3}, 0, 1, 2, 6, 7, 8);
    }

    private static void copyAsTheyWere() {
        Due.sentence("29: SHEET t (perhaps s, as they were)");
        copied(new int[] {0, 0, 0, 1, 4}, 0, 1, 1, 2, 3, 4);
        copied(new int[] {0, 1, 0, 0, 4}, 0, 2, 3, 4, 5, 5);
        copied(new int[] {0, 0, 0, 0, 5}, 0, 1, 2, 3, 4, 5);
        copied(new int[] {0, 0, 0, 2, 3}, 0, 1, 2, 1, 2, 3);
        copied(new int[] {0, 0, 0, 3, 2}, 0, 1, 2, 3, 1, 2);
    }

    private static void copyOfNoItems() {
        Due.sentence("29: (of n 0, too: i or j above the size)");
        copied(new int[] {0, 0, 1, 0, 0}, 1, 6, 7, 8);
        copied(new int[] {0, 5, 1, 3, 0}, 1, 6, 7, 8);
        copied(new int[] {0, 5, 0, 5, 0}, 0, 1, 2, 3, 4, 5);
        int[][] wrong = {{6, 0}, {0, 4}, {6, 4}, {-1, 0}, {0, -1}, {MOST, 0}, {0, MOST},
            {LEAST, 0}, {0, LEAST}};
        for (int[] w : wrong) {
            RichestPays x = fiveAndThree();
            String call = "copy(0, " + w[0] + ", 1, " + w[1] + ", 0)";
            is(x, call, x.copy(0, w[0], 1, w[1], 0), INDEX, 2);
        }
        RichestPays x = new RichestPays();
        x.sheet(0, 0, 0);
        is(x, "copy(0, 0, 0, 0, 0) of none", x.copy(0, 0, 0, 0, 0), 1, 0);
        is(x, "copy(0, 1, 0, 0, 0) of none", x.copy(0, 1, 0, 0, 0), INDEX, 2);
    }

    private static void copyOfAllItems() {
        Due.sentence("29: not so many there: of 48 all");
        RichestPays x = new RichestPays();
        x.sheet(0, 0, 48);
        x.sheet(1, 0, 48);
        x.put(0, 0, 0, 11);
        x.put(0, 0, 47, 12);
        is(x, "copy(0, 0, 1, 0, 48)", x.copy(0, 0, 1, 0, 48), 1, 0);
        Due.is("get(1, 0, 0)", x.get(1, 0, 0), 11);
        Due.is("get(1, 0, 47)", x.get(1, 0, 47), 12);
        is(x, "copy(0, 0, 1, 0, 49)", x.copy(0, 0, 1, 0, 49), INDEX, 2);
        is(x, "copy(0, 0, 1, 1, 48)", x.copy(0, 0, 1, 1, 48), INDEX, 2);
        is(x, "copy(0, 48, 1, 48, 0)", x.copy(0, 48, 1, 48, 0), 1, 2);
    }

    private static void copyRefusals() {
        Due.sentence("29: INDEX: i, j or n below 0, not so many there");
        int[][] wrong = {{-1, 0, 1}, {0, -1, 1}, {0, 0, -1}, {5, 0, 1}, {0, 3, 1}, {3, 0, 3},
            {0, 1, 3}, {0, 0, 4}, {0, 0, 6}, {LEAST, 0, 1}, {0, LEAST, 1}, {0, 0, LEAST},
            {MOST, 0, 1}, {0, MOST, 1}, {0, 0, MOST}, {MOST, MOST, MOST}, {1, 0, MOST},
            {LEAST, LEAST, LEAST}, {-1, -1, 0}, {2, 1, -1}};
        for (int[] w : wrong) {
            RichestPays x = fiveAndThree();
            String call = "copy(0, " + w[0] + ", 1, " + w[1] + ", " + w[2] + ")";
            is(x, call, x.copy(0, w[0], 1, w[1], w[2]), INDEX, 2);
            items(x, 0, 2, 1, 2, 3, 4, 5);
            items(x, 1, 2, 6, 7, 8);
        }
    }

    private static void copyRefusalsInOrder() {
        Due.sentence("29: BAD: the SHEETS; NULL: s, t; STORE; INDEX, the first that fits");
        int[][] due = {{4, 9, 3, 9, -1, BAD, 0}, {3, 9, 4, 9, -1, BAD, 0}, {-1, 0, 0, 0, 1, BAD, 0},
            {0, 0, -1, 0, 1, BAD, 0}, {MOST, 0, 0, 0, 1, BAD, 0}, {0, 0, LEAST, 0, 1, BAD, 0},
            {3, 9, 0, 9, -1, NULL, 1}, {0, 9, 3, 9, -1, NULL, 1}, {3, 0, 3, 0, 0, NULL, 1},
            {0, 9, 2, 9, -1, STORE, 4}, {2, 0, 0, 0, 0, STORE, 4}, {0, 9, 1, 9, -1, INDEX, 2}};
        for (int[] d : due) {
            RichestPays x = fiveAndThree();
            String call = "copy(" + d[0] + ", " + d[1] + ", " + d[2] + ", " + d[3] + ", " + d[4] + ")";
            is(x, call, x.copy(d[0], d[1], d[2], d[3], d[4]), d[5], d[6]);
            items(x, 0, 2, 1, 2, 3, 4, 5);
            items(x, 2, 1, 0, 0, 0, 0, 0);
        }
    }

    // ---- write

    private static void writeAsManyAsThereAre() {
        Due.sentence("30: as many as there are items and PEOPLE: how many");
        for (int n : new int[] {0, 1, 2, 3, 4, 48}) {
            RichestPays x = Make.with("3010;2005;9901", "");
            x.sheet(0, 2, n);
            for (int i = 0; i < n; i++) {
                x.put(0, 2, i, 7);
            }
            is(x, "write(0, 0) of " + n, x.write(0, 0), Math.min(n, 3), 0);
            int[] hands = {30, 20, 99};
            for (int i = 0; i < n; i++) {
                Due.is("get(0, 2, " + i + ")", x.get(0, 2, i), i < 3 ? hands[i] : 7);
            }
        }
        RichestPays x = Make.with("0101;0201;0301;0401;0501;0601", "");
        x.sheet(0, 2, 8);
        Due.is("write(0, 0) of six", x.write(0, 0), 6);
        items(x, 0, 2, 1, 2, 3, 4, 5, 6, 0, 0);
        x.wipe(0);
        x.sheet(0, 2, 1);
        Due.is("write(0, 0) of none", x.write(0, 0), 0);
    }

    private static void writeBehindKRounds() {
        Due.sentence("30: HANDS of PEOPLE 0 on behind k ROUNDS come to a SHEET");
        RichestPays x = Make.with("3010;2005", "00;0-");
        int[][] hands = {{30, 15}, {15, 15}, {5, 15}};
        x.home(1, 5);
        for (int k = 0; k <= 2; k++) {
            x.sheet(0, 2, 2);
            Due.is("write(" + k + ", 0)", x.write(k, 0), 2);
            items(x, 0, 2, hands[k]);
        }
    }

    private static void writeByForm() {
        Due.sentence("27: (the lowest bits that it has, with its sign; by write(), too)");
        for (int form = 0; form <= 2; form++) {
            RichestPays x = Make.with("9901;0001", "");
            x.sheet(0, form, 3);
            x.put(0, form, 1, -1);
            x.put(0, form, 2, -1);
            Due.is("write(0, 0)", x.write(0, 0), 2);
            items(x, 0, form, 99, 0, -1);
        }
    }

    private static void writeRefusals() {
        Due.sentence("30: BAD; NULL");
        RichestPays x = Make.with("3010;2005", "00");
        Make.row(x, 0, 7, 7);
        int[][] due = {{2, 0}, {-1, 0}, {9, 0}, {MOST, 0}, {LEAST, 0}, {0, 4}, {0, -1}, {0, MOST},
            {0, LEAST}, {2, 3}, {-1, 3}};
        for (int[] d : due) {
            is(x, "write(" + d[0] + ", " + d[1] + ")", x.write(d[0], d[1]), BAD, 0);
        }
        is(x, "write(1, 3)", x.write(1, 3), NULL, 1);
        items(x, 0, 2, 7, 7);
        RichestPays y = new RichestPays();
        y.sheet(0, 0, 1);
        is(y, "write(0, 0) of none", y.write(0, 0), 0, 0);
        is(y, "write(1, 0) of none", y.write(1, 0), BAD, 0);
    }

    // ---- count

    private static void counts() {
        Due.sentence("31: 0 PEOPLE, 1 ROUNDS, 2, 3 bytes of texts, 4 SEEN, 5 all PURSES, 6 all HANDS");
        RichestPays x = new RichestPays();
        for (int what = 0; what <= 8; what++) {
            Due.is("count(" + what + ") at first", x.count(what), 0);
        }
        Make.type(x, 0, "9901;9902;9903;9904;9905;9906");
        Make.type(x, 1, "000000;------;12345-");
        int[] due = {6, 3, 29, 20, 0, 594, 594, 11, 0};
        for (int what = 0; what <= 8; what++) {
            Due.is("count(" + what + ")", x.count(what), due[what]);
        }
        x.home(0, 1);
        x.home(5, 99);
        x.seen(7, 5, 0);
        x.type(0, 'x');
        int[] withFault = {0, 0, 30, 20, 1, 0, 0, 0, 0};
        for (int what = 0; what <= 8; what++) {
            Due.is("count(" + what + ") with a FAULT", x.count(what), withFault[what]);
        }
        Make.retype(x, 0, "9901;9902;9903;9904;9905;9906");
        Due.is("count(5) with HOME", x.count(5), 594);
        Due.is("count(6) with HOME", x.count(6), 594 - 100);
    }

    private static void countOfMeals() {
        Due.sentence("31: 7 how many meals were eaten (of one in a ROUND one)");
        String[] rounds = {"", "--", "0-", "01", "00;00", "00;--;5-", "00;00;00;00;00;00;00;00"};
        int[] due = {0, 0, 1, 2, 4, 3, 16};
        for (int i = 0; i < rounds.length; i++) {
            RichestPays x = Make.with("5010;0005", rounds[i]);
            Due.is("count(7) of " + rounds[i], x.count(7), due[i]);
        }
    }

    private static void countRefused() {
        Due.sentence("31: BAD");
        RichestPays x = Make.with("5010", "0");
        for (int what : new int[] {-1, 9, LEAST, MOST}) {
            Due.refused(x, "count(" + what + ")", () -> x.count(what), BAD);
        }
    }

    // ---- digest

    /** Of so many numbers, as longs that wrap. */
    private static long digestOf(long... numbers) {
        BigInteger h = BigInteger.valueOf(17);
        for (long number : numbers) {
            h = h.multiply(BigInteger.valueOf(31)).add(BigInteger.valueOf(number));
        }
        return h.longValue();
    }

    private static void digestOfNone() {
        Due.sentence("32: digest of a new object");
        Due.is("digest()", new RichestPays().digest(),
                digestOf(0, 0, 0, 0, 0, 0, 0, 0, -1, -1, 0, 1, 0, 0, 100, 289));
        RichestPays x = Make.with("5", "0");
        Due.is("digest() with FAULTS", x.digest(),
                digestOf(0, 0, 1, 1, 0, 0, 0, 0, 1, 0, 0, 1, 0, 0, 100, 289));
    }

    private static void digestInItsOrder() {
        Due.sentence("32: (of each thing all that is told of it, then of the next one)");
        RichestPays x = Make.with("3010;1507", "01;00");
        x.home(0, 5);
        x.seen(1, 0, 8);
        // of 25 and 15 they pay 10 and 7; then of 15 and 8 the first pays 15 of 17; he would
        // have paid 8 with 12 at HOME; none sits well, as the poorer follows; 3 ROUNDS take all
        Due.is("digest()", x.digest(), digestOf(
                2, 2, 9, 5, 1, 45, 40, 4, NONE, NONE,
                30, 10, 0, 25, 20, 2, NONE, NONE, 12,
                15, 7, 8, 7, 14, 0, NONE, NONE, NONE,
                0, 1, 20, 0, 30, 0, NONE, 20, 0, 16,
                0, 0, 3, 1, 100, 289));
    }

    private static void digestOfDown() {
        Due.sentence("32: down(it, 10) (as it is told)");
        // of 20, 10 and 11 one has 10 behind 2 ROUNDS, behind none, never
        RichestPays x = Make.with("2005;1003;1100", "");
        x.set(0, 2);
        Due.is("digest()", x.digest(), digestOf(
                3, 0, 14, 0, 0, 41, 41, 0, NONE, NONE,
                20, 5, 20, 0, 0, 0, 0, 2, 0,
                10, 3, 10, 0, 0, 0, 0, 0, 0,
                11, 0, 11, 0, 0, 0, 0, NONE, 0,
                0, 27, NONE, 0, 100, 289));
    }

    private static void digestWraps() {
        Due.sentence("32: as longs that wrap; down, alike as they are told (FULL)");
        RichestPays x = Make.with("0099;0099;0099;0099;0099", "0----");
        Due.is("digest()", x.digest(), digestOf(
                5, 1, 24, 5, 0, 0, 0, 1, NONE, NONE,
                0, 99, 0, 0, 99, 99, 0, RichestPays.FULL, 0,
                0, 99, 0, 0, 0, 0, 0, RichestPays.FULL, 0,
                0, 99, 0, 0, 0, 0, 0, RichestPays.FULL, 0,
                0, 99, 0, 0, 0, 0, 0, RichestPays.FULL, 0,
                0, 99, 0, 0, 0, 0, 0, RichestPays.FULL, 0,
                0, NONE, 20, 0, 0,
                1, 243, RichestPays.FULL, 0, 100, 289));
    }

    private static void digestChangesNothing() {
        Due.sentence("32: digest changes nothing");
        RichestPays x = Make.with("6005;5007;5003;0409", "0001;000-;1111");
        x.home(0, 30);
        x.lose(0);
        long digest = x.digest();
        Due.is("digest() again", x.digest(), digest);
        Due.is("count(8)", x.count(8), 1);
        x.put(0, 3, 0, 0);
        x.put(0, 0, 0, 0);
        x.sheet(1, 2, -1);
        x.sheet(1, 2, 9);
        Due.is("digest() behind SHEETS and FINDINGS", x.digest(), digest);
        Due.is("home(0, 0)", x.home(0, 0), 30);
    }
}
