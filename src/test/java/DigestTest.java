/** Promise 32: digest, put together anew from the calls that it tells, and one by number. */
public final class DigestTest {
    public static void main(String[] args) {
        Due.is("digest() of four", asInTheSharedTest().digest(), 7447072215387610905L);
        digestOf("", "");
        digestOf("5005", "");
        digestOf("9905;5007;5003;0409", "0001;0110;-101;0000");
        digestOf("9905;5007;5003;0409;3010;0003", "000111;----22;012345");
        digestOf("9905;5007;5003;0409;3010", "00011;9");
        digestOf("9905;500", "00");
        Due.end("DigestTest");
    }

    private static RichestPays asInTheSharedTest() {
        RichestPays x = Make.with("6005;5007;5003;0409", "0001;000-;1111");
        x.home(0, 30);
        return x;
    }

    private static void digestOf(String people, String rounds) {
        RichestPays x = Make.with(people, rounds);
        x.home(0, 12);
        x.worth(1, 7);
        x.seen(0, 1, 0);
        for (int law = 0; law < 3; law++) {
            x.set(0, law);
            String call = "digest() of " + people + " / " + rounds + ", LAW " + law;
            Due.is(call, x.digest(), byCalls(x));
            x.put(3, 0, 0, 0);
            Due.is(call + " behind a FINDING", x.digest(), byCalls(x));
        }
    }

    private static long byCalls(RichestPays x) {
        long h = 17;
        for (int what = 0; what < 8; what++) {
            h = 31 * h + x.count(what);
        }
        h = 31 * (31 * h + x.fault(0)) + x.fault(1);
        for (int p = 0; p < x.count(0); p++) {
            h = 31 * (31 * h + x.person(p, 0)) + x.person(p, 1);
            for (int what = 0; what < 4; what++) {
                h = 31 * h + x.state(p, x.count(1), what);
            }
            h = 31 * h + x.rest(p);
            h = 31 * h + x.down(p, 10);
            h = 31 * h + x.hid(p);
        }
        for (int r = 0; r < x.count(1); r++) {
            h = 31 * (31 * h + x.payer(r, 0)) + x.payer(r, 1);
            for (int what = 0; what < 3; what++) {
                h = 31 * h + x.best(r, 0, what);
            }
        }
        h = 31 * h + x.beggars();
        h = 31 * h + x.rest(-1);
        h = 31 * h + x.alike();
        h = 31 * h + x.unlike();
        return 31 * (31 * h + x.luck(2, 30, 50, 0)) + x.luck(2, 30, 50, 1);
    }
}
