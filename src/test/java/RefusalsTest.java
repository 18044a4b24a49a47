import java.util.Arrays;
import java.util.function.ToLongFunction;

/**
 * The paragraph on refusals: they change nothing (FINDINGS but count() 8), whatever the call;
 * and no call throws, whatever its arguments.
 */
public final class RefusalsTest {
    private static final int LEAST = Integer.MIN_VALUE, MOST = Integer.MAX_VALUE;
    private static final int[] SIZES = {3, 4, 5};
    private static final int[] EXTREMES = {LEAST, LEAST + 1, -100, -2, -1, 0, 1, 5, 8, 48, 49, 99,
        256, 65536, MOST - 1, MOST};

    public static void main(String[] args) {
        numbersOfRefusals();
        badChangesNothing();
        notAndFullChangeNothing();
        findingsChangeCount8Alone();
        twoReasonsAtOnce();
        anyArgumentIsAnswered();
        fiveHundredAndTwelveCalls();
        Due.end("RefusalsTest");
    }

    /** Six PEOPLE, ROUNDS, all that can be told, and a SHEET of each FORM; the fourth is LOST. */
    private static RichestPays full() {
        RichestPays x = Make.with("6005;5007;5003;0409;9910;0001", "000111;--0011;222222");
        for (int p = 0; p < 6; p++) {
            x.home(p, 3 + p);
            x.worth(p, 30 - p);
        }
        x.set(0, 1);
        x.set(1, 1);
        for (int i = 0; i < 8; i++) {
            x.seen(i % 4, i % 3, 2 * i);
        }
        for (int s = 0; s < 3; s++) {
            x.sheet(s, s, SIZES[s]);
            for (int i = 0; i < SIZES[s]; i++) {
                x.put(s, s, i, 10 * s + i + 1);
            }
        }
        x.sheet(3, 0, -1);
        return x;
    }

    /** All that an object tells, but for count(8); it is as before. */
    private static long[] whole(RichestPays x) {
        long[] all = new long[80];
        int n = 0;
        all[n++] = x.digest();
        for (int p = 0; p < 6; p++) {
            int home = x.home(p, 0);
            x.home(p, home);
            int worth = x.worth(p, 0);
            x.worth(p, worth);
            all[n++] = home;
            all[n++] = worth;
            for (int round = 0; round < 3; round++) {
                all[n++] = x.sits(round, p);
            }
        }
        for (int what = 0; what < 2; what++) {
            int was = x.set(what, 0);
            x.set(what, was);
            all[n++] = was;
        }
        for (int s = 0; s < 3; s++) {
            for (int i = 0; i < SIZES[s]; i++) {
                all[n++] = x.get(s, s, i);
            }
            all[n++] = x.copy(s, SIZES[s], s, SIZES[s], 0);
        }
        return Arrays.copyOf(all, n);
    }

    private static void refusal(String call, ToLongFunction<RichestPays> made, long due, int latest) {
        RichestPays x = full();
        long[] before = whole(x);
        Due.is("count(8) ahead of " + call, x.count(8), 5);
        Due.is(call, made.applyAsLong(x), due);
        Due.is("count(8) behind " + call, x.count(8), latest);
        long[] behind = whole(x);
        for (int i = 0; i < before.length; i++) {
            Due.is("what is told, number " + i + ", behind " + call, behind[i], before[i]);
        }
        for (int s = 0; s < 3; s++) {
            Due.is("lose(" + s + ") behind " + call, x.lose(s), SIZES[s]);
        }
        Due.is("lose(3) behind " + call, x.lose(3), -11);
    }

    private static void numbersOfRefusals() {
        Due.sentence("The public face: NONE = -1, BAD = -2, NOT = -3, FULL = -4");
        Due.is("NONE", RichestPays.NONE, -1);
        Due.is("BAD", RichestPays.BAD, -2);
        Due.is("NOT", RichestPays.NOT, -3);
        Due.is("FULL", RichestPays.FULL, -4);
    }

    private static void badChangesNothing() {
        Due.sentence("Refusals: BAD -2 (a number not as told, no such thing): They change nothing");
        for (int wrong : new int[] {-2, 100, LEAST, MOST}) {
            refusal("type(w, 48)", x -> x.type(wrong, 48), -2, 5);
            refusal("type(0, w)", x -> x.type(0, wrong == 100 ? 256 : wrong), -2, 5);
            refusal("wipe(w)", x -> x.wipe(wrong), -2, 5);
            refusal("fault(w)", x -> x.fault(wrong), -2, 5);
            refusal("person(w, 0)", x -> x.person(wrong, 0), -2, 5);
            refusal("sits(w, 0)", x -> x.sits(wrong, 0), -2, 5);
            refusal("home(w, 1)", x -> x.home(wrong, 1), -2, 5);
            refusal("home(0, w)", x -> x.home(0, wrong), -2, 5);
            refusal("worth(w, 1)", x -> x.worth(wrong, 1), -2, 5);
            refusal("worth(0, w)", x -> x.worth(0, wrong), -2, 5);
            refusal("read(w)", x -> x.read(wrong), -2, 5);
            refusal("set(w, 0)", x -> x.set(wrong, 0), -2, 5);
            refusal("set(0, w)", x -> x.set(0, wrong), -2, 5);
            refusal("set(1, w)", x -> x.set(1, wrong), -2, 5);
            refusal("state(w, 0, 0)", x -> x.state(wrong, 0, 0), -2, 5);
            refusal("all(w, 0)", x -> x.all(wrong, 0), -2, 5);
            refusal("payer(w, 0)", x -> x.payer(wrong, 0), -2, 5);
            refusal("best(w, 0, 0)", x -> x.best(wrong, 0, 0), -100002, 5);
            refusal("rest(w)", x -> x.rest(wrong), -2, 5);
            refusal("down(w, 10)", x -> x.down(wrong, 10), -2, 5);
            refusal("dark(w, 0, 1)", x -> x.dark(wrong, 0, 1), -2, 5);
            refusal("seen(w, 0, 0)", x -> x.seen(wrong, 0, 0), -2, 5);
            refusal("hid(w)", x -> x.hid(wrong), -2, 5);
            refusal("luck(w, 0, 1, 0)", x -> x.luck(wrong, 0, 1, 0), Long.MIN_VALUE + 2, 5);
            refusal("sheet(w, 0, 1)", x -> x.sheet(wrong, 0, 1), -2, 5);
            refusal("sheet(0, w, 1)", x -> x.sheet(0, wrong, 1), -2, 5);
            refusal("sheet(0, 0, above 48)", x -> x.sheet(0, 0, wrong < 0 ? 49 : wrong), -2, 5);
            refusal("lose(w)", x -> x.lose(wrong), -2, 5);
            refusal("put(w, 0, 0, 9)", x -> x.put(wrong, 0, 0, 9), -2, 5);
            refusal("put(0, w, 0, 9)", x -> x.put(0, wrong, 0, 9), -2, 5);
            refusal("get(w, 0, 0)", x -> x.get(wrong, 0, 0), LEAST, 5);
            refusal("copy(w, 0, 0, 0, 1)", x -> x.copy(wrong, 0, 0, 0, 1), -2, 5);
            refusal("copy(0, 0, w, 0, 1)", x -> x.copy(0, 0, wrong, 0, 1), -2, 5);
            refusal("write(w, 2)", x -> x.write(wrong, 2), -2, 5);
            refusal("write(0, w)", x -> x.write(0, wrong), -2, 5);
            refusal("count(w)", x -> x.count(wrong), -2, 5);
        }
    }

    private static void notAndFullChangeNothing() {
        Due.sentence("Refusals: NOT -3 (as told), FULL -4: They change nothing");
        refusal("dark(0, 0, 3)", x -> x.dark(0, 0, 3), -3, 5);
        refusal("dark(1, 0, 1)", x -> x.dark(1, 0, 1), -3, 5);
        refusal("down(0, 10)", x -> x.down(0, 10), -4, 5);
        refusal("alike()", x -> x.alike(), -4, 5);
        refusal("seen(0, 0, 0)", x -> x.seen(0, 0, 0), -4, 5);
        for (int text = 0; text < 2; text++) {
            int t = text;
            refusal("type(" + text + ", ..) beyond", x -> typedBeyond(x, t), -4, 5);
        }
    }

    /** What type answers to one byte too many; the text is as before, as far as it has been well. */
    private static int typedBeyond(RichestPays x, int text) {
        int answer = 0;
        for (int i = 0; i < 60 && answer >= 0; i++) {
            answer = x.type(text, '0');
        }
        Make.retype(x, 0, "6005;5007;5003;0409;9910;0001");
        Make.retype(x, 1, "000111;--0011;222222");
        return answer;
    }

    private static void findingsChangeCount8Alone() {
        Due.sentence("Refusals: They change nothing (FINDINGS but count() 8)");
        refusal("read(3)", x -> x.read(3), -11, 1);
        refusal("lose(3)", x -> x.lose(3), -11, 1);
        refusal("put(3, 0, 0, 9)", x -> x.put(3, 0, 0, 9), -11, 1);
        refusal("get(3, 0, 0)", x -> x.get(3, 0, 0), LEAST, 1);
        refusal("copy(3, 0, 0, 0, 1)", x -> x.copy(3, 0, 0, 0, 1), -11, 1);
        refusal("copy(0, 0, 3, 0, 1)", x -> x.copy(0, 0, 3, 0, 1), -11, 1);
        refusal("write(1, 3)", x -> x.write(1, 3), -11, 1);
        refusal("put(2, 2, 5, 9)", x -> x.put(2, 2, 5, 9), -12, 2);
        refusal("put(2, 2, -1, 9)", x -> x.put(2, 2, -1, 9), -12, 2);
        refusal("get(2, 2, 5)", x -> x.get(2, 2, 5), LEAST, 2);
        refusal("copy(2, 1, 2, 2, 4)", x -> x.copy(2, 1, 2, 2, 4), -12, 2);
        refusal("put(2, 1, 0, 9)", x -> x.put(2, 1, 0, 9), -13, 3);
        refusal("get(2, 0, 0)", x -> x.get(2, 0, 0), LEAST, 3);
        refusal("copy(1, 0, 2, 0, 1)", x -> x.copy(1, 0, 2, 0, 1), -14, 4);
        refusal("sheet(2, 2, -1)", x -> x.sheet(2, 2, -1), -15, 5);
        refusal("sheet(3, 2, least)", x -> x.sheet(3, 2, LEAST), -15, 5);
    }

    private static void twoReasonsAtOnce() {
        Due.sentence("Refusals, the first that fits: BAD, NULL, NOT, FULL, other FINDINGS");
        refusal("down(6, 10) of six", x -> x.down(6, 10), -2, 5);
        refusal("down(0, 100) of six", x -> x.down(0, 100), -2, 5);
        refusal("dark(1, 0, 0), who is away", x -> x.dark(1, 0, 0), -2, 5);
        refusal("dark(1, 0, 6), who is away", x -> x.dark(1, 0, 6), -2, 5);
        refusal("seen(0, 0, 100) of 8", x -> x.seen(0, 0, 100), -2, 5);
        refusal("sheet(4, 0, -1)", x -> x.sheet(4, 0, -1), -2, 5);
        refusal("write(4, 3), LOST", x -> x.write(4, 3), -2, 5);
        refusal("put(3, 3, -1, 0), LOST", x -> x.put(3, 3, -1, 0), -2, 5);
        refusal("put(3, 1, -1, 0), LOST", x -> x.put(3, 1, -1, 0), -11, 1);
        refusal("put(0, 1, -1, 0)", x -> x.put(0, 1, -1, 0), -13, 3);
        refusal("get(3, 1, -1), LOST", x -> x.get(3, 1, -1), LEAST, 1);
        refusal("get(0, 1, -1)", x -> x.get(0, 1, -1), LEAST, 3);
        refusal("copy(3, -1, 4, 0, 0)", x -> x.copy(3, -1, 4, 0, 0), -2, 5);
        refusal("copy(0, -1, 3, 0, 0)", x -> x.copy(0, -1, 3, 0, 0), -11, 1);
        refusal("copy(0, -1, 1, 0, 0)", x -> x.copy(0, -1, 1, 0, 0), -14, 4);
    }

    /** Each call with each two arguments as far off as can be, the others low. */
    private static void anyArgumentIsAnswered() {
        Due.sentence("LANGUAGE 7: No call may ever throw, for any arguments in any state");
        int answered = 0;
        for (int a : EXTREMES) {
            for (int b : EXTREMES) {
                answered += askedWith(new RichestPays(), a, b, 0) + askedWith(full(), a, b, 0);
                answered += askedWith(full(), 0, a, b) + askedWith(full(), a, 0, b);
            }
        }
        Due.is("calls that were answered", answered, 4 * 16 * 16 * 33);
    }

    private static int askedWith(RichestPays x, int a, int b, int c) {
        long[] answers = {x.type(a, b), x.fault(a), x.person(a, b), x.sits(a, b), x.home(a, b),
            x.worth(a, b), x.read(a), x.set(a, b), x.state(a, b, c), x.all(a, b), x.payer(a, b),
            x.beggars(), x.best(a, b, c), x.rest(a), x.down(a, b), x.alike(), x.dark(a, b, c),
            x.seen(a, b, c), x.unlike(), x.hid(a), x.luck(a, b, c, 1), x.luck(1, 2, a, b),
            x.sheet(a, b, c), x.put(a, b, c, a), x.get(a, b, c), x.copy(a, b, 0, c, b),
            x.copy(0, a, 0, b, c), x.write(a, b), x.count(a), x.digest(), x.lose(a), x.wipe(a),
            x.forget()};
        return answers.length;
    }

    private static void fiveHundredAndTwelveCalls() {
        Due.sentence("An object is used for at most 512 calls: the last is as the first");
        RichestPays x = new RichestPays();
        int calls = 0;
        for (; calls < 480; calls += 4) {
            Due.is("type() of call " + calls, x.type(0, '5'), 1);
            Due.is("fault() of call " + calls, x.fault(0), 1);
            Due.is("sheet() of call " + calls, x.sheet(3, 2, 48), 48);
            Due.is("wipe() of call " + calls, x.wipe(0), 1);
        }
        String bytes = "6005;5007;5003;0409";
        for (int i = 0; i < bytes.length(); i++) {
            Due.is("type() of call " + (calls + i), x.type(0, bytes.charAt(i)), i + 1);
        }
        calls += bytes.length();
        for (; calls < 511; calls++) {
            Due.is("down(0, 60) of call " + calls, x.down(0, 60), 0);
        }
        Due.is("digest() as call 512", x.digest(), Make.with(bytes, "").digest());
    }
}
