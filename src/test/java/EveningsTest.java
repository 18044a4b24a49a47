/** Promises 11 to 14: state, all, payer, beggars; the LAWS, TIES and SHORT among them. */
public final class EveningsTest {
    public static void main(String[] args) {
        richestPays();
        ties();
        byHalves();
        eachOnesOwn();
        together();
        payers();
        beggars();
        mostOfAll();
        Due.end("EveningsTest");
    }

    /** HAND, PAID, EATEN, SHORT of one behind k ROUNDS. */
    private static void state(RichestPays x, int person, int k, int... due) {
        for (int what = 0; what < 4; what++) {
            Due.is("state(" + person + ", " + k + ", " + what + ")",
                    x.state(person, k, what), due[what]);
        }
    }

    private static void richestPays() {
        RichestPays x = Make.with("3010;2005;9920", "001;00-;000");
        state(x, 0, 0, 30, 0, 0, 0);
        state(x, 0, 1, 15, 15, 10, 0);
        state(x, 1, 1, 20, 0, 5, 0);
        state(x, 2, 1, 79, 20, 20, 0);
        state(x, 0, 2, 15, 15, 20, 0);
        state(x, 1, 2, 5, 15, 10, 0);
        state(x, 2, 2, 79, 20, 20, 0);
        state(x, 2, 3, 44, 55, 40, 0);
        x.home(2, 95);
        state(x, 2, 0, 4, 0, 0, 0);
        state(x, 2, 1, 0, 4, 20, 16);
        state(x, 0, 3, 0, 30, 30, 20);
        for (int what = 0; what < 4; what++) {
            Due.is("state of none", x.state(3, 0, what), RichestPays.BAD);
            Due.is("state below", x.state(-1, 0, what), RichestPays.BAD);
            Due.is("state too far", x.state(0, 4, what), RichestPays.BAD);
            Due.is("state before", x.state(0, -1, what), RichestPays.BAD);
        }
        Due.is("state of what", x.state(0, 0, 4), RichestPays.BAD);
        Due.is("state of what not", x.state(0, 0, -1), RichestPays.BAD);
    }

    private static void ties() {
        RichestPays x = Make.with("3010;3005;3001", "000");
        state(x, 0, 1, 14, 16, 10, 0);
        x.set(1, 1);
        state(x, 0, 1, 30, 0, 10, 0);
        state(x, 2, 1, 14, 16, 1, 0);
        x.home(2, 1);
        state(x, 1, 1, 14, 16, 5, 0);
    }

    private static void byHalves() {
        RichestPays x = Make.with("5010;6005;4010", "000;0-1");
        x.set(0, 1);
        state(x, 0, 1, 37, 13, 10, 0);
        state(x, 1, 1, 48, 12, 5, 0);
        state(x, 2, 1, 40, 0, 10, 0);
        state(x, 0, 2, 27, 23, 20, 0);
        state(x, 2, 2, 30, 10, 20, 0);
        Make.retype(x, 0, "1005;1005;1005");
        state(x, 0, 1, 3, 7, 5, 0);
        state(x, 1, 1, 2, 8, 5, 0);
        x.set(1, 1);
        state(x, 2, 1, 3, 7, 5, 0);
        state(x, 1, 1, 2, 8, 5, 0);
        Make.retype(x, 0, "0611;0500;0200");
        state(x, 0, 1, 1, 5, 11, 0);
        state(x, 1, 1, 0, 5, 0, 1);
        Make.retype(x, 0, "0399;0500;0200");
        state(x, 1, 1, 0, 5, 0, 44);
        state(x, 0, 1, 0, 3, 99, 47);
        Make.retype(x, 1, "0--");
        state(x, 0, 1, 0, 3, 99, 96);
    }

    private static void eachOnesOwn() {
        RichestPays x = Make.with("5010;0305;4010", "000;0-1");
        x.set(0, 2);
        state(x, 0, 1, 40, 10, 10, 0);
        state(x, 1, 1, 0, 3, 5, 2);
        state(x, 2, 2, 20, 20, 20, 0);
        state(x, 1, 2, 0, 3, 5, 2);
    }

    private static void together() {
        RichestPays x = Make.with("3010;2005;0420", "00-;--0");
        x.home(1, 5);
        int[] atFirst = {49, 0, 0, 0};
        int[] between = {34, 15, 15, 0};
        int[] behind = {30, 19, 35, 16};
        for (int what = 0; what < 4; what++) {
            Due.is("all(0, " + what + ")", x.all(0, what), atFirst[what]);
            Due.is("all(1, " + what + ")", x.all(1, what), between[what]);
            Due.is("all(2, " + what + ")", x.all(2, what), behind[what]);
        }
        Due.is("all(3, 0)", x.all(3, 0), RichestPays.BAD);
        Due.is("all(-1, 0)", x.all(-1, 0), RichestPays.BAD);
        Due.is("all(0, 4)", x.all(0, 4), RichestPays.BAD);
        Due.is("all(0, -1)", x.all(0, -1), RichestPays.BAD);
        x.wipe(0);
        Due.is("all(0, 0) of none", x.all(0, 0), 0);
        Due.is("all(1, 0) of none", x.all(1, 0), RichestPays.BAD);
    }

    /** Six PEOPLE and eight ROUNDS, the last of them at the last TABLE. */
    private static void mostOfAll() {
        RichestPays x = Make.with("9901;9801;9701;9601;9501;9401",
                "------;------;------;------;------;------;------;555555");
        Due.is("fault(1)", x.fault(1), -1);
        Due.is("count(1)", x.count(1), 8);
        Due.is("count(5)", x.count(5), 579);
        Due.is("count(7)", x.count(7), 6);
        Due.is("payer(7, 5)", x.payer(7, 5), 0);
        Due.is("payer(6, 5)", x.payer(6, 5), RichestPays.NONE);
        Due.is("all(8, 0)", x.all(8, 0), 573);
        Due.is("sits(7, 5)", x.sits(7, 5), 5);
        Due.is("best(7, 5, 1)", x.best(7, 5, 1), 0);
        Due.is("dark(7, 0, 1)", x.dark(7, 0, 1), 1);
        state(x, 0, 8, 93, 6, 1, 0);
        Make.retype(x, 1, "000000;000000;000000;000000;000000;000000;000000;-00000");
        Due.is("payer(7, 5) behind other ROUNDS", x.payer(7, 5), RichestPays.NONE);
        Due.is("payer(7, 0) behind other ROUNDS", x.payer(7, 0), 1);
        Due.is("count(7) behind other ROUNDS", x.count(7), 47);
    }

    private static void payers() {
        RichestPays x = Make.with("3010;2015;2005", "001;001;---");
        Due.is("payer(0, 0)", x.payer(0, 0), 0);
        Due.is("payer(0, 1)", x.payer(0, 1), 2);
        Due.is("payer(0, 5)", x.payer(0, 5), RichestPays.NONE);
        Due.is("payer(1, 0)", x.payer(1, 0), 1);
        Due.is("payer(2, 0)", x.payer(2, 0), RichestPays.NONE);
        Due.is("payer(3, 0)", x.payer(3, 0), RichestPays.BAD);
        Due.is("payer(-1, 0)", x.payer(-1, 0), RichestPays.BAD);
        Due.is("payer(0, 6)", x.payer(0, 6), RichestPays.BAD);
        Due.is("payer(0, -1)", x.payer(0, -1), RichestPays.BAD);
        x.set(0, 1);
        Due.is("payer(0, 0): the greater half", x.payer(0, 0), 1);
        Make.retype(x, 0, "3010;2010;2500");
        Make.retype(x, 1, "000");
        Due.is("payer(0, 0): like halves", x.payer(0, 0), 0);
        x.set(1, 1);
        Due.is("payer(0, 0): like halves, TIES", x.payer(0, 0), 2);
        x.set(0, 0);
        Make.retype(x, 0, "0010;0010;0000");
        Due.is("payer(0, 0): all pay nothing, TIES", x.payer(0, 0), 2);
        x.set(1, 0);
        Due.is("payer(0, 0): all pay nothing", x.payer(0, 0), 0);
        Make.retype(x, 0, "3000;4000;2000");
        Due.is("payer(0, 0): nothing to pay", x.payer(0, 0), 0);
    }

    private static void beggars() {
        RichestPays x = Make.with("3010;2005;1000;0707", "000-");
        Due.is("beggars()", x.beggars(), 2);
        Make.type(x, 1, ";1234");
        Due.is("beggars(), all alone once", x.beggars(), 0);
        Make.retype(x, 0, "3010;0005;1000;0007");
        Due.is("beggars(), empty PURSES", x.beggars(), 2 + 8);
        x.wipe(1);
        Due.is("beggars(), no ROUNDS", x.beggars(), 0);
        Make.retype(x, 0, "3010;2001;2000");
        Make.type(x, 1, "000");
        Due.is("beggars(), who eats least", x.beggars(), 2);
    }
}
