/**
 * Long runs of calls, by a fixed row of numbers, on RichestPays and on PlainModel: the answers
 * must be alike. Promises 2 to 32 all come in.
 */
public final class ModelTest {
    /** A step makes 140 calls at most; of 512 all answers are promised. */
    private static final int RUNS = 1000, MOST_CALLS = 512 - 140;
    private static long row = 20261118;

    private ModelTest() {
    }

    public static void main(String[] args) {
        for (int run = 0; run < RUNS; run++) {
            RichestPays x = new RichestPays();
            PlainModel y = new PlainModel();
            int before = Due.asked();
            retype(x, y, 0);
            retype(x, y, 1);
            while (Due.asked() - before <= MOST_CALLS) {
                change(x, y);
                compare(x, y);
            }
        }
        Due.end("ModelTest");
    }

    /** From 0 to less than bound. */
    private static int next(int bound) {
        row = row * 6364136223846793005L + 1442695040888963407L;
        return (int) ((row >>> 33) % bound);
    }

    /** From least to most, seldom one more or less. */
    private static int near(int least, int most) {
        int by = next(16);
        return by == 0 ? least - 1 : by == 1 ? most + 1 : least + next(most - least + 1);
    }

    private static boolean isIn(int v, int least, int most) {
        return v >= least && v <= most;
    }

    private static String people() {
        int n = next(8) == 0 ? 0 : 1 + next(next(3) == 0 ? 6 : 4);
        int purses = 1 + next(99);
        int appetites = 1 + next(next(2) == 0 ? 99 : 12);
        StringBuilder b = new StringBuilder();
        for (int p = 0; p < n; p++) {
            b.append(p == 0 ? "" : ";");
            b.append(String.format("%02d%02d", next(purses), next(appetites)));
        }
        return b.toString();
    }

    private static String rounds(int n) {
        int tables = 1 + next(6);
        int k = next(9);
        StringBuilder b = new StringBuilder();
        for (int r = 0; r < k && n > 0; r++) {
            b.append(r == 0 ? "" : ";");
            for (int p = 0; p < n; p++) {
                b.append(next(6) == 0 ? '-' : (char) ('0' + next(tables)));
            }
        }
        return b.toString();
    }

    private static void type(RichestPays x, PlainModel y, int text, int b) {
        boolean isBad = !isIn(text, 0, 1) || !isIn(b, 0, 255);
        int due = isBad ? -2 : y.texts[text].length() >= 30 + 30 * text ? -4 : 0;
        if (due == 0) {
            due = y.texts[text].append((char) b).length();
        }
        Due.is("type(" + text + ", " + b + ")", x.type(text, b), due);
    }

    private static void retype(RichestPays x, PlainModel y, int text) {
        Due.is("wipe(" + text + ")", x.wipe(text), y.texts[text].length());
        y.texts[text].setLength(0);
        String bytes = text == 0 ? people() : rounds(y.people().size());
        for (char b : bytes.toCharArray()) {
            type(x, y, text, b);
        }
    }

    private static void change(RichestPays x, PlainModel y) {
        switch (next(12)) {
            case 0: type(x, y, near(0, 1), next(2) == 0 ? near(0, 255) : "0123;-59".charAt(next(8)));
                break;
            case 1: retype(x, y, next(4) == 0 ? 0 : 1);
                break;
            case 2: retype(x, y, 0);
                retype(x, y, 1);
                break;
            case 3: home(x, y, near(0, 5), next(3) == 0 ? near(0, 99) : next(20));
                break;
            case 4: worth(x, y, near(0, 5), near(0, 99));
                break;
            case 5: set(x, y, 0, near(0, 2));
                break;
            case 6: set(x, y, near(0, 1), near(0, 1));
                break;
            case 7: see(x, y);
                break;
            case 8: Due.is("forget()", x.forget(), y.seen.size());
                y.seen.clear();
                break;
            default: sheetCall(x, y);
        }
    }

    private static void home(RichestPays x, PlainModel y, int p, int v) {
        boolean isBad = !isIn(p, 0, 5) || !isIn(v, 0, 99);
        Due.is("home(" + p + ", " + v + ")", x.home(p, v), isBad ? -2 : y.home[p]);
        if (!isBad) {
            y.home[p] = v;
        }
    }

    private static void worth(RichestPays x, PlainModel y, int p, int v) {
        boolean isBad = !isIn(p, 0, 5) || !isIn(v, 0, 99);
        Due.is("worth(" + p + ", " + v + ")", x.worth(p, v), isBad ? -2 : y.worth[p]);
        if (!isBad) {
            y.worth[p] = v;
        }
    }

    private static void set(RichestPays x, PlainModel y, int what, int v) {
        boolean isBad = !isIn(what, 0, 1) || !isIn(v, 0, what == 0 ? 2 : 1);
        int due = isBad ? -2 : what == 0 ? y.law : y.ties;
        Due.is("set(" + what + ", " + v + ")", x.set(what, v), due);
        if (!isBad && what == 0) {
            y.law = v;
        } else if (!isBad) {
            y.ties = v;
        }
    }

    /** Mostly what was so, that HID may be found. */
    private static void see(RichestPays x, PlainModel y) {
        int round = near(0, next(3) == 0 ? 7 : Math.max(0, y.rounds().size() - 1));
        int p = near(0, next(3) == 0 ? 5 : Math.max(0, y.people().size() - 1));
        int v = near(0, 99);
        boolean isThere = isIn(round, 0, y.rounds().size() - 1)
                && isIn(p, 0, y.people().size() - 1);
        if (isThere && next(4) != 0) {
            v = y.state(p, round + 1, 1) - y.state(p, round, 1);
        }
        boolean isBad = !isIn(round, 0, 7) || !isIn(p, 0, 5) || !isIn(v, 0, 99);
        int due = isBad ? -2 : y.seen.size() >= 8 ? -4 : 0;
        if (due == 0) {
            y.seen.add(new int[] {round, p, v});
            due = y.seen.size();
        }
        Due.is("seen(" + round + ", " + p + ", " + v + ")", x.seen(round, p, v), due);
    }

    // ---- sheets

    private static int found(PlainModel y, int finding) {
        y.finding = finding;
        return -10 - finding;
    }

    private static int cut(int form, int v) {
        return form == 0 ? (byte) v : form == 1 ? (short) v : v;
    }

    private static void sheetCall(RichestPays x, PlainModel y) {
        int s = near(0, 3);
        int form = near(0, 2);
        int i = next(8) == 0 ? near(0, 48) : near(0, 7);
        switch (next(7)) {
            case 0: sheet(x, y, s, form, next(4) == 0 ? near(0, 48) : near(0, 8));
                break;
            case 1: lose(x, y, s);
                break;
            case 2: put(x, y, s, form, i, next(2) == 0 ? next(120) - 10 : next(1 << 30) * 3);
                break;
            case 3: get(x, y, s, form, i);
                break;
            case 4: copy(x, y, new int[] {s, i, near(0, 3), near(0, 7), near(0, 5)});
                break;
            case 5: write(x, y, near(0, y.rounds().size()), s);
                break;
            default: read(x, y, s);
        }
    }

    private static void sheet(RichestPays x, PlainModel y, int s, int form, int n) {
        int due = n;
        if (!isIn(s, 0, 3) || !isIn(form, 0, 2) || n > 48) {
            due = -2;
        } else if (n < 0) {
            due = found(y, 5);
        } else {
            y.items[s] = new int[n];
            y.forms[s] = form;
        }
        Due.is("sheet(" + s + ", " + form + ", " + n + ")", x.sheet(s, form, n), due);
    }

    private static void lose(RichestPays x, PlainModel y, int s) {
        int due = -2;
        if (isIn(s, 0, 3)) {
            due = y.items[s] == null ? found(y, 1) : y.items[s].length;
            y.items[s] = null;
        }
        Due.is("lose(" + s + ")", x.lose(s), due);
    }

    private static int refusal(PlainModel y, int s, int form, int i) {
        if (!isIn(s, 0, 3) || !isIn(form, 0, 2)) {
            return -2;
        }
        if (y.items[s] == null) {
            return found(y, 1);
        }
        if (y.forms[s] != form) {
            return found(y, 3);
        }
        return isIn(i, 0, y.items[s].length - 1) ? 0 : found(y, 2);
    }

    private static void put(RichestPays x, PlainModel y, int s, int form, int i, int v) {
        int due = refusal(y, s, form, i);
        if (due == 0) {
            y.items[s][i] = cut(form, v);
            due = 1;
        }
        Due.is("put(" + s + ", " + form + ", " + i + ", " + v + ")", x.put(s, form, i, v), due);
    }

    private static void get(RichestPays x, PlainModel y, int s, int form, int i) {
        int due = refusal(y, s, form, i) == 0 ? y.items[s][i] : Integer.MIN_VALUE;
        Due.is("get(" + s + ", " + form + ", " + i + ")", x.get(s, form, i), due);
    }

    private static void copy(RichestPays x, PlainModel y, int[] c) {
        int due = 1;
        if (!isIn(c[0], 0, 3) || !isIn(c[2], 0, 3)) {
            due = -2;
        } else if (y.items[c[0]] == null || y.items[c[2]] == null) {
            due = found(y, 1);
        } else if (y.forms[c[0]] != y.forms[c[2]]) {
            due = found(y, 4);
        } else if (c[1] < 0 || c[3] < 0 || c[4] < 0 || c[1] + c[4] > y.items[c[0]].length
                || c[3] + c[4] > y.items[c[2]].length) {
            due = found(y, 2);
        } else {
            int[] as = y.items[c[0]].clone();
            for (int i = 0; i < c[4]; i++) {
                y.items[c[2]][c[3] + i] = as[c[1] + i];
            }
        }
        String call = "copy(" + c[0] + ", " + c[1] + ", " + c[2] + ", " + c[3] + ", " + c[4] + ")";
        Due.is(call, x.copy(c[0], c[1], c[2], c[3], c[4]), due);
    }

    private static void write(RichestPays x, PlainModel y, int k, int s) {
        int due = -2;
        if (isIn(k, 0, y.rounds().size()) && isIn(s, 0, 3)) {
            due = y.items[s] == null ? found(y, 1)
                    : Math.min(y.items[s].length, y.people().size());
            for (int p = 0; p < due; p++) {
                y.items[s][p] = y.state(p, k, 0);
            }
        }
        Due.is("write(" + k + ", " + s + ")", x.write(k, s), due);
    }

    private static void read(RichestPays x, PlainModel y, int s) {
        int due = -2;
        if (isIn(s, 0, 3) && y.items[s] == null) {
            due = found(y, 1);
        } else if (isIn(s, 0, 3)) {
            due = 0;
            while (due < 6 && due < y.items[s].length && isIn(y.items[s][due], 0, 99)) {
                y.home[due] = y.items[s][due];
                due++;
            }
        }
        Due.is("read(" + s + ")", x.read(s), due);
    }

    // ---- answers

    private static void compare(RichestPays x, PlainModel y) {
        int n = y.people().size();
        int k = y.rounds().size();
        counts(x, y);
        evenings(x, y, near(0, 5), near(0, 8), near(0, 3));
        rounds(x, y, near(0, Math.max(0, k - 1)), near(0, Math.max(0, n - 1)), near(0, 5));
        int p = near(0, Math.max(0, n - 1));
        int v = isIn(p, 0, n - 1) && next(2) == 0
                ? y.handsAtFirst()[p] - next(next(2) == 0 ? 12 : 100) : near(0, 99);
        int down = !isIn(p, 0, n - 1) || !isIn(v, 0, 99) ? -2 : y.fewest(p, v);
        Due.is("down(" + p + ", " + v + ")", x.down(p, v), down);
        Due.is("hid(" + p + ")", x.hid(p), isIn(p, 0, n - 1) ? y.hid(p) : -2);
        if (n <= (next(3) == 0 ? 4 : 2)) {
            rests(x, y, n);
        }
        luck(x, near(0, 5), near(0, 99), near(1, 99), near(0, 1));
    }

    private static void counts(RichestPays x, PlainModel y) {
        int purses = 0;
        for (int p = 0; p < y.people().size(); p++) {
            purses += y.purse(p);
        }
        int[] due = {y.people().size(), y.rounds().size(), y.texts[0].length(),
            y.texts[1].length(), y.seen.size(), purses, y.all(0, 0), y.meals(), y.finding};
        for (int what = 0; what < due.length; what++) {
            Due.is("count(" + what + ")", x.count(what), due[what]);
        }
        Due.is("fault(0)", x.fault(0), y.fault(0));
        Due.is("fault(1) of " + y.texts[1], x.fault(1), y.fault(1));
        Due.is("beggars()", x.beggars(), y.beggars());
        Due.is("unlike()", x.unlike(), y.unlike());
        Due.is("alike()", x.alike(), y.fewest(-1, 0));
    }

    private static void evenings(RichestPays x, PlainModel y, int p, int k, int what) {
        boolean isBehind = isIn(k, 0, y.rounds().size()) && isIn(what, 0, 3);
        boolean isOne = isIn(p, 0, y.people().size() - 1);
        Due.is("state(" + p + ", " + k + ", " + what + ")", x.state(p, k, what),
                isBehind && isOne ? y.state(p, k, what) : -2);
        Due.is("all(" + k + ", " + what + ")", x.all(k, what), isBehind ? y.all(k, what) : -2);
        boolean isTold = isOne && isIn(what, 0, 1);
        Due.is("person(" + p + ", " + what + ")", x.person(p, what),
                !isTold ? -2 : what == 0 ? y.purse(p) : y.appetite(p));
    }

    private static void rounds(RichestPays x, PlainModel y, int round, int p, int other) {
        boolean isRound = isIn(round, 0, y.rounds().size() - 1);
        boolean isOne = isRound && isIn(p, 0, y.people().size() - 1);
        Due.is("payer(" + round + ", " + other + ")", x.payer(round, other),
                isRound && isIn(other, 0, 5) ? y.payer(round, other) : -2);
        int sign = isOne ? y.rounds().get(round).charAt(p) : 0;
        Due.is("sits(" + round + ", " + p + ")", x.sits(round, p),
                !isOne ? -2 : sign == '-' ? -1 : sign - '0');
        boolean areTwo = isOne && isIn(other, 0, y.people().size() - 1) && p != other;
        Due.is("dark(" + round + ", " + p + ", " + other + ")", x.dark(round, p, other),
                areTwo ? y.dark(round, p, other) : -2);
        int what = near(0, 2);
        boolean isBest = isOne && isIn(what, 0, 2);
        Due.is("best(" + round + ", " + p + ", " + what + ")", x.best(round, p, what),
                isBest ? y.best(round, p, what) : -100002);
    }

    private static void rests(RichestPays x, PlainModel y, int n) {
        java.util.List<String> rests = y.rests();
        Due.is("rest(NONE)", x.rest(-1), rests.size());
        for (int p = 0; p < n; p++) {
            char sign = rests.isEmpty() ? '-' : rests.get(0).charAt(p);
            Due.is("rest(" + p + ")", x.rest(p), sign == '-' ? -1 : sign - '0');
        }
        Due.is("rest(" + n + ")", x.rest(n), -2);
    }

    private static void luck(RichestPays x, int m, int h, int u, int what) {
        boolean isTold = isIn(m, 0, 5) && isIn(h, 0, 99) && isIn(u, 1, 99) && isIn(what, 0, 1);
        Due.is("luck(" + m + ", " + h + ", " + u + ", " + what + ")", x.luck(m, h, u, what),
                isTold ? PlainModel.luck(m, h, u, what) : Long.MIN_VALUE + 2);
    }
}
