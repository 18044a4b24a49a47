/** Promises 25 to 31: sheet, lose, put, get, copy, write, count. */
public final class SheetsTest {
    public static void main(String[] args) {
        sheet();
        lose();
        putAndGet();
        itemRefusals();
        copy();
        copyRefusals();
        write();
        count();
        Due.end("SheetsTest");
    }

    private static void items(RichestPays x, int s, int form, int... due) {
        for (int i = 0; i < due.length; i++) {
            Due.is("get(" + s + ", " + form + ", " + i + ")", x.get(s, form, i), due[i]);
        }
    }

    private static void sheet() {
        RichestPays x = new RichestPays();
        Due.is("sheet(0, 0, 48)", x.sheet(0, 0, 48), 48);
        Due.is("sheet(3, 2, 0)", x.sheet(3, 2, 0), 0);
        Due.is("sheet(4, 0, 1)", x.sheet(4, 0, 1), RichestPays.BAD);
        Due.is("sheet(-1, 0, -1)", x.sheet(-1, 0, -1), RichestPays.BAD);
        Due.is("sheet(1, 3, -1)", x.sheet(1, 3, -1), RichestPays.BAD);
        Due.is("sheet(1, -1, 1)", x.sheet(1, -1, 1), RichestPays.BAD);
        Due.is("sheet(1, 0, 49)", x.sheet(1, 0, 49), RichestPays.BAD);
        Due.is("count(8) before any", x.count(8), 0);
        Due.is("sheet(0, 0, -1)", x.sheet(0, 0, -1), -15);
        Due.is("count(8)", x.count(8), 5);
        Due.is("lose(0), as it was", x.lose(0), 48);
        Due.is("lose(1), never made", x.lose(1), -11);
        x.sheet(2, 1, 3);
        x.put(2, 1, 0, 76);
        x.put(2, 1, 2, 77);
        Due.is("sheet(2, 2, 3)", x.sheet(2, 2, 3), 3);
        items(x, 2, 2, 0, 0, 0);
    }

    private static void lose() {
        RichestPays x = new RichestPays();
        x.sheet(0, 1, 5);
        Due.is("lose(0)", x.lose(0), 5);
        Due.is("lose(0) again", x.lose(0), -11);
        Due.is("count(8)", x.count(8), 1);
        Due.is("put on a LOST one", x.put(0, 1, 0, 1), -11);
        Due.is("lose(4)", x.lose(4), RichestPays.BAD);
        Due.is("lose(-1)", x.lose(-1), RichestPays.BAD);
    }

    private static void putAndGet() {
        RichestPays x = new RichestPays();
        x.sheet(0, 0, 3);
        x.sheet(1, 1, 3);
        x.sheet(2, 2, 3);
        int[] values = {200, 40000, -129};
        for (int i = 0; i < 3; i++) {
            for (int form = 0; form < 3; form++) {
                Due.is("put", x.put(form, form, i, values[i]), 1);
            }
        }
        items(x, 0, 0, -56, 64, 127);
        items(x, 1, 1, 200, -25536, -129);
        items(x, 2, 2, 200, 40000, -129);
        x.put(2, 2, 0, Integer.MIN_VALUE);
        items(x, 2, 2, Integer.MIN_VALUE, 40000, -129);
        Due.is("count(8)", x.count(8), 0);
    }

    private static void refusal(RichestPays x, int s, int form, int i, int answer, int latest) {
        String call = "(" + s + ", " + form + ", " + i + ")";
        Due.is("put" + call, x.put(s, form, i, 9), answer);
        Due.is("count(8) behind put" + call, x.count(8), latest);
        x.sheet(0, 2, -1);
        Due.is("get" + call, x.get(s, form, i), Integer.MIN_VALUE);
        Due.is("count(8) behind get" + call, x.count(8), answer == RichestPays.BAD ? 5 : latest);
        x.sheet(0, 2, -1);
    }

    private static void itemRefusals() {
        RichestPays x = new RichestPays();
        x.sheet(0, 2, 3);
        x.sheet(0, 2, -1);
        refusal(x, 4, 2, 0, RichestPays.BAD, 5);
        refusal(x, -1, 2, 0, RichestPays.BAD, 5);
        refusal(x, 1, 3, 0, RichestPays.BAD, 5);
        refusal(x, 0, -1, 9, RichestPays.BAD, 5);
        refusal(x, 1, 2, -1, -11, 1);
        refusal(x, 0, 1, -1, -13, 3);
        refusal(x, 0, 0, 1, -13, 3);
        refusal(x, 0, 2, 3, -12, 2);
        refusal(x, 0, 2, -1, -12, 2);
        refusal(x, 0, 2, Integer.MIN_VALUE, -12, 2);
        refusal(x, 0, 2, Integer.MAX_VALUE, -12, 2);
        items(x, 0, 2, 0, 0, 0);
    }

    private static void copy() {
        RichestPays x = new RichestPays();
        Make.row(x, 0, 1, 2, 3, 4, 5);
        Make.row(x, 1, 9, 9, 9);
        Due.is("copy(0, 1, 1, 0, 2)", x.copy(0, 1, 1, 0, 2), 1);
        items(x, 1, 2, 2, 3, 9);
        Due.is("copy(0, 0, 0, 1, 4)", x.copy(0, 0, 0, 1, 4), 1);
        items(x, 0, 2, 1, 1, 2, 3, 4);
        Due.is("copy(0, 1, 0, 0, 4)", x.copy(0, 1, 0, 0, 4), 1);
        items(x, 0, 2, 1, 2, 3, 4, 4);
        Due.is("copy(0, 5, 1, 3, 0)", x.copy(0, 5, 1, 3, 0), 1);
        Due.is("copy(0, 2, 1, 0, 3)", x.copy(0, 2, 1, 0, 3), 1);
        items(x, 1, 2, 3, 4, 4);
    }

    private static void copyRefusal(RichestPays x, int[] c, int answer, int latest) {
        String call = "copy(" + c[0] + ", " + c[1] + ", " + c[2] + ", " + c[3] + ", " + c[4] + ")";
        x.sheet(0, 0, -1);
        Due.is(call, x.copy(c[0], c[1], c[2], c[3], c[4]), answer);
        Due.is("count(8) behind " + call, x.count(8), latest);
    }

    private static void copyRefusals() {
        RichestPays x = new RichestPays();
        Make.row(x, 0, 1, 2, 3, 4, 5);
        Make.row(x, 1, 9, 9, 9);
        x.sheet(2, 1, 5);
        int most = Integer.MAX_VALUE;
        copyRefusal(x, new int[] {4, 0, 3, 0, 1}, RichestPays.BAD, 5);
        copyRefusal(x, new int[] {3, 0, -1, 0, 1}, RichestPays.BAD, 5);
        copyRefusal(x, new int[] {3, 0, 0, 0, -1}, -11, 1);
        copyRefusal(x, new int[] {0, 0, 3, 0, 1}, -11, 1);
        copyRefusal(x, new int[] {0, -1, 2, 0, 1}, -14, 4);
        copyRefusal(x, new int[] {2, 0, 0, 0, 0}, -14, 4);
        copyRefusal(x, new int[] {0, -1, 1, 0, 1}, -12, 2);
        copyRefusal(x, new int[] {0, 0, 1, -1, 1}, -12, 2);
        copyRefusal(x, new int[] {0, 0, 1, 0, -1}, -12, 2);
        copyRefusal(x, new int[] {0, 3, 1, 0, 3}, -12, 2);
        copyRefusal(x, new int[] {0, 0, 1, 1, 3}, -12, 2);
        copyRefusal(x, new int[] {0, 6, 1, 0, 0}, -12, 2);
        copyRefusal(x, new int[] {0, 0, 1, 4, 0}, -12, 2);
        copyRefusal(x, new int[] {0, 1, 1, 0, most}, -12, 2);
        copyRefusal(x, new int[] {0, most, 1, most, most}, -12, 2);
        copyRefusal(x, new int[] {0, 0, 1, 0, Integer.MIN_VALUE}, -12, 2);
        items(x, 0, 2, 1, 2, 3, 4, 5);
        items(x, 1, 2, 9, 9, 9);
    }

    private static void write() {
        RichestPays x = Make.with("3010;2005;9920", "001;000");
        x.home(1, 3);
        Make.row(x, 0, 7, 7, 7, 7);
        Due.is("write(0, 0)", x.write(0, 0), 3);
        items(x, 0, 2, 30, 17, 99, 7);
        Due.is("write(2, 0)", x.write(2, 0), 3);
        items(x, 0, 2, 15, 17, 44, 7);
        x.sheet(1, 0, 2);
        Due.is("write(1, 1)", x.write(1, 1), 2);
        items(x, 1, 0, 15, 17);
        x.sheet(2, 1, 0);
        Due.is("write(1, 2)", x.write(1, 2), 0);
        Due.is("write(3, 3)", x.write(3, 3), RichestPays.BAD);
        Due.is("write(-1, 0)", x.write(-1, 0), RichestPays.BAD);
        Due.is("write(0, 4)", x.write(0, 4), RichestPays.BAD);
        Due.is("write(0, -1)", x.write(0, -1), RichestPays.BAD);
        Due.is("count(8)", x.count(8), 0);
        Due.is("write(0, 3)", x.write(0, 3), -11);
        Due.is("count(8) behind", x.count(8), 1);
        x.wipe(0);
        Due.is("write(0, 0) of none", x.write(0, 0), 0);
        Due.is("write(1, 0) of none", x.write(1, 0), RichestPays.BAD);
    }

    private static void count() {
        RichestPays x = Make.with("3010;2000;9920", "001;-0-;---");
        x.home(1, 3);
        x.home(0, 50);
        x.home(5, 50);
        x.seen(0, 0, 0);
        int[] due = {3, 3, 14, 11, 1, 149, 116, 4, 0};
        for (int what = 0; what < due.length; what++) {
            Due.is("count(" + what + ")", x.count(what), due[what]);
        }
        Due.is("count(9)", x.count(9), RichestPays.BAD);
        Due.is("count(-1)", x.count(-1), RichestPays.BAD);
        x.lose(0);
        x.sheet(0, 0, -1);
        Due.is("count(8), the latest", x.count(8), 5);
        Make.type(x, 0, ";");
        int[] withFault = {0, 0, 15, 11, 1, 0, 0, 0, 5};
        for (int what = 0; what < withFault.length; what++) {
            Due.is("count(" + what + ") with a FAULT", x.count(what), withFault[what]);
        }
    }
}
