/** Promises 19 to 24: dark, seen, forget, unlike, hid, luck. */
public final class DarkTest {
    public static void main(String[] args) {
        dark();
        darkLaws();
        seen();
        unlike();
        hid();
        luck();
        Due.end("DarkTest");
    }

    private static void dark() {
        RichestPays x = Make.with("6005;5007;5003;0409", "0001;0-01;--00");
        Due.is("dark(0, 0, 1)", x.dark(0, 0, 1), 6);
        Due.is("dark(0, 1, 0), pays nothing", x.dark(0, 1, 0), RichestPays.NONE);
        Due.is("dark(2, 2, 3)", x.dark(2, 2, 3), 24);
        x.set(1, 1);
        Due.is("dark(0, 0, 1) by TIES", x.dark(0, 0, 1), 5);
        Due.is("dark(2, 2, 3) by TIES", x.dark(2, 2, 3), 23);
        x.set(1, 0);
        x.home(0, 5);
        Due.is("dark(0, 0, 1) with HOME", x.dark(0, 0, 1), 3);
        Due.refused(x, "dark(0, 0, 3)", () -> x.dark(0, 0, 3), RichestPays.NOT);
        Due.refused(x, "dark(1, 0, 1)", () -> x.dark(1, 0, 1), RichestPays.NOT);
        Due.refused(x, "dark(1, 1, 0)", () -> x.dark(1, 1, 0), RichestPays.NOT);
        Due.refused(x, "dark(2, 0, 1), both away", () -> x.dark(2, 0, 1), RichestPays.NOT);
        Due.refused(x, "dark(0, 0, 0)", () -> x.dark(0, 0, 0), RichestPays.BAD);
        Due.refused(x, "dark(2, 0, 0)", () -> x.dark(2, 0, 0), RichestPays.BAD);
        Due.refused(x, "dark(3, 0, 1)", () -> x.dark(3, 0, 1), RichestPays.BAD);
        Due.refused(x, "dark(-1, 0, 1)", () -> x.dark(-1, 0, 1), RichestPays.BAD);
        Due.refused(x, "dark(0, 4, 1)", () -> x.dark(0, 4, 1), RichestPays.BAD);
        Due.refused(x, "dark(0, -1, 1)", () -> x.dark(0, -1, 1), RichestPays.BAD);
        Due.refused(x, "dark(0, 0, 4)", () -> x.dark(0, 0, 4), RichestPays.BAD);
        Due.refused(x, "dark(0, 0, -1)", () -> x.dark(0, 0, -1), RichestPays.BAD);
    }

    private static void darkLaws() {
        RichestPays x = Make.with("6005;5007", "00");
        x.set(0, 1);
        Due.is("dark(0, 0, 1) by halves, the lesser one", x.dark(0, 0, 1), 55);
        x.set(0, 2);
        Due.is("dark(0, 0, 1), one's own", x.dark(0, 0, 1), 56);
        Due.is("dark(0, 1, 0), one's own", x.dark(0, 1, 0), 44);
        Make.retype(x, 0, "0005;5007");
        Due.is("dark(0, 0, 1), nothing on HAND", x.dark(0, 0, 1), RichestPays.NONE);
        x.set(0, 0);
        Make.retype(x, 0, "0199;0099");
        Due.is("dark(0, 0, 1), all on HAND", x.dark(0, 0, 1), 1);
    }

    private static void seen() {
        RichestPays x = Make.with("6005;5007", "00");
        Due.refused(x, "seen(8, 0, 0)", () -> x.seen(8, 0, 0), RichestPays.BAD);
        Due.refused(x, "seen(-1, 0, 0)", () -> x.seen(-1, 0, 0), RichestPays.BAD);
        Due.refused(x, "seen(0, 6, 0)", () -> x.seen(0, 6, 0), RichestPays.BAD);
        Due.refused(x, "seen(0, -1, 0)", () -> x.seen(0, -1, 0), RichestPays.BAD);
        Due.refused(x, "seen(0, 0, 100)", () -> x.seen(0, 0, 100), RichestPays.BAD);
        Due.refused(x, "seen(0, 0, -1)", () -> x.seen(0, 0, -1), RichestPays.BAD);
        for (int i = 1; i <= 8; i++) {
            Due.is("seen(7, 5, 99)", x.seen(7, 5, 99), i);
        }
        Due.is("count(4)", x.count(4), 8);
        Due.refused(x, "seen(0, 0, 0), a ninth", () -> x.seen(0, 0, 0), RichestPays.FULL);
        Due.refused(x, "seen(8, 0, 0), a ninth", () -> x.seen(8, 0, 0), RichestPays.BAD);
        Due.is("unlike()", x.unlike(), 8);
        Due.is("forget()", x.forget(), 8);
        Due.is("forget() again", x.forget(), 0);
        Due.is("count(4) behind", x.count(4), 0);
        Due.is("unlike() behind", x.unlike(), 0);
        Due.is("seen(0, 0, 12)", x.seen(0, 0, 12), 1);
        Due.is("unlike() of another", x.unlike(), 0);
    }

    private static void unlike() {
        RichestPays x = Make.with("6010;5510", "00;00;0-");
        x.seen(0, 0, 20);
        x.seen(1, 1, 20);
        x.seen(1, 0, 0);
        x.seen(2, 1, 0);
        Due.is("unlike()", x.unlike(), 0);
        x.seen(1, 1, 21);
        Due.is("unlike() with a wrong sum", x.unlike(), 1);
        x.seen(3, 0, 0);
        Due.is("unlike() with no such ROUND", x.unlike(), 2);
        x.seen(0, 2, 0);
        Due.is("unlike() with no such one", x.unlike(), 3);
        x.home(0, 10);
        Due.is("unlike() with HOME", x.unlike(), 6);
        x.wipe(1);
        Due.is("unlike() without ROUNDS", x.unlike(), 7);
    }

    private static void hid() {
        RichestPays x = Make.with("6010;5510", "00;00");
        Due.is("hid(0), nothing SEEN", x.hid(0), 0);
        x.seen(0, 1, 20);
        Due.is("hid(0), who did not pay", x.hid(0), 6);
        Due.is("hid(1)", x.hid(1), RichestPays.NONE);
        x.home(0, 30);
        Due.is("hid(0) in place of what is told", x.hid(0), 6);
        Due.is("hid(1) as HOME 0 is told", x.hid(1), 0);
        Due.is("home(0, 0) as it was", x.home(0, 0), 30);
        x.seen(1, 0, 5);
        Due.is("hid(0), who had just so much", x.hid(0), RichestPays.NONE);
        x.forget();
        x.seen(0, 0, 0);
        x.seen(1, 0, 0);
        Due.is("hid(0), who never paid", x.hid(0), 26);
        x.seen(1, 1, 20);
        Due.is("hid(0), who never paid, as SEEN", x.hid(0), 26);
        x.seen(2, 1, 0);
        Due.is("hid(0), no such ROUND", x.hid(0), RichestPays.NONE);
        x.forget();
        Make.retype(x, 0, "0910;0000");
        x.seen(0, 0, 0);
        Due.is("hid(0), all of it", x.hid(0), 9);
        Due.is("hid(2)", x.hid(2), RichestPays.BAD);
        Due.is("hid(-1)", x.hid(-1), RichestPays.BAD);
    }

    private static void luck(int m, int h, int u, long above, long below) {
        RichestPays x = new RichestPays();
        String call = "luck(" + m + ", " + h + ", " + u + ", ";
        Due.is(call + "0)", x.luck(m, h, u, 0), above);
        Due.is(call + "1)", x.luck(m, h, u, 1), below);
    }

    private static void luck() {
        luck(0, 0, 1, 1, 1);
        luck(0, 7, 9, 1, 1);
        luck(1, 0, 9, 0, 1);
        luck(5, 0, 9, 0, 1);
        luck(1, 1, 1, 1, 2);
        luck(1, 2, 1, 1, 1);
        luck(3, 6, 8, 8, 27);
        luck(2, 9, 9, 81, 100);
        luck(2, 10, 9, 1, 1);
        luck(5, 97, 99, 8587340257L, 10000000000L);
        RichestPays x = new RichestPays();
        long bad = Long.MIN_VALUE + 2;
        Due.is("luck(6, ..)", x.luck(6, 0, 1, 0), bad);
        Due.is("luck(-1, ..)", x.luck(-1, 0, 1, 0), bad);
        Due.is("luck(0, 100, ..)", x.luck(0, 100, 1, 0), bad);
        Due.is("luck(0, -1, ..)", x.luck(0, -1, 1, 0), bad);
        Due.is("luck(0, 0, 0, ..)", x.luck(0, 0, 0, 0), bad);
        Due.is("luck(0, 0, -1, ..)", x.luck(0, 0, -1, 1), bad);
        Due.is("luck(0, 0, 100, ..)", x.luck(0, 0, 100, 0), bad);
        Due.is("luck(.., 2)", x.luck(0, 0, 1, 2), bad);
        Due.is("luck(.., -1)", x.luck(0, 0, 1, -1), bad);
    }
}
