/** Promises 1 to 10: a new object, type, wipe, fault, person, sits, home, worth, read, set. */
public final class TextsTest {
    public static void main(String[] args) {
        newObject();
        typed();
        wiped();
        faultsOfPeople();
        faultsOfRounds();
        persons();
        seats();
        homes();
        worths();
        readHomes();
        laws();
        Due.end("TextsTest");
    }

    private static void newObject() {
        RichestPays x = new RichestPays();
        for (int what = 0; what <= 8; what++) {
            Due.is("new: count(" + what + ")", x.count(what), 0);
        }
        for (int s = 0; s < 4; s++) {
            Due.is("new: lose(" + s + ")", x.lose(s), -11);
        }
        for (int p = 0; p < 6; p++) {
            Due.is("new: home(" + p + ", 0)", x.home(p, 0), 0);
            Due.is("new: worth(" + p + ", 20)", x.worth(p, 20), 20);
        }
        Due.is("new: set(0, 0)", x.set(0, 0), 0);
        Due.is("new: set(1, 0)", x.set(1, 0), 0);
        Due.is("new: forget()", x.forget(), 0);
        Due.is("new: fault(0)", x.fault(0), -1);
        Due.is("new: fault(1)", x.fault(1), -1);
    }

    private static void typed() {
        RichestPays x = new RichestPays();
        for (int i = 1; i <= 30; i++) {
            Due.is("type(0, " + i + ")", x.type(0, i), i);
        }
        Due.refused(x, "type(0, 0) on 30 bytes", () -> x.type(0, 0), RichestPays.FULL);
        Due.is("count(2)", x.count(2), 30);
        for (int i = 1; i <= 60; i++) {
            Due.is("type(1, 255)", x.type(1, 255), i);
        }
        Due.refused(x, "type(1, 255) on 60 bytes", () -> x.type(1, 255), RichestPays.FULL);
        Due.refused(x, "type(1, 256) on 60 bytes", () -> x.type(1, 256), RichestPays.BAD);
        Due.is("count(3)", x.count(3), 60);
        RichestPays y = new RichestPays();
        Due.refused(y, "type(-1, 48)", () -> y.type(-1, 48), RichestPays.BAD);
        Due.refused(y, "type(2, 48)", () -> y.type(2, 48), RichestPays.BAD);
        Due.refused(y, "type(0, -1)", () -> y.type(0, -1), RichestPays.BAD);
        Due.refused(y, "type(0, 256)", () -> y.type(0, 256), RichestPays.BAD);
        Due.is("type(0, 0)", y.type(0, 0), 1);
    }

    private static void wiped() {
        RichestPays x = Make.with("2010;3010", "00;01");
        Due.is("wipe(1)", x.wipe(1), 5);
        Due.is("wipe(1) again", x.wipe(1), 0);
        Due.is("count(1)", x.count(1), 0);
        Due.is("count(0)", x.count(0), 2);
        Due.is("wipe(0)", x.wipe(0), 9);
        Due.is("count(0) behind", x.count(0), 0);
        Due.refused(x, "wipe(2)", () -> x.wipe(2), RichestPays.BAD);
        Due.refused(x, "wipe(-1)", () -> x.wipe(-1), RichestPays.BAD);
        Make.type(x, 0, "x010");
        Due.is("wipe(0) with a FAULT", x.wipe(0), 4);
    }

    private static void faultOf(String people, int want, int number) {
        RichestPays x = Make.with(people, "");
        Due.is("fault(0) of " + people, x.fault(0), want);
        Due.is("count(0) of " + people, x.count(0), number);
    }

    private static void faultsOfPeople() {
        faultOf("", -1, 0);
        faultOf("5005", -1, 1);
        faultOf("5", 1, 0);
        faultOf("500", 3, 0);
        faultOf("5005;", 5, 0);
        faultOf("50055", 4, 0);
        faultOf(";", 0, 0);
        faultOf("5005;;", 5, 0);
        faultOf("50 5", 2, 0);
        faultOf("50-5", 2, 0);
        faultOf("/005", 0, 0);
        faultOf(":005", 0, 0);
        faultOf("0000;9999", -1, 2);
        faultOf("0000;0000;0000;0000;0000;0000", -1, 6);
        faultOf("0000;0000;0000;0000;0000;0000;", 30, 0);
        RichestPays x = new RichestPays();
        Due.is("fault(2)", x.fault(2), RichestPays.BAD);
        Due.is("fault(-1)", x.fault(-1), RichestPays.BAD);
    }

    private static void faultOf(String people, String rounds, int want, int number) {
        RichestPays x = Make.with(people, rounds);
        Due.is("fault(1) of " + people + " / " + rounds, x.fault(1), want);
        Due.is("count(1) of " + people + " / " + rounds, x.count(1), number);
    }

    private static void faultsOfRounds() {
        faultOf("", "", -1, 0);
        faultOf("", "0", 0, 0);
        faultOf("", ";", 0, 0);
        faultOf("5", "0", 0, 0);
        faultOf("5", "", -1, 0);
        faultOf("5005;2003", "", -1, 0);
        faultOf("5005", "", -1, 0);
        faultOf("5005;2003", "0", 1, 0);
        faultOf("5005;2003", "05", -1, 1);
        faultOf("5005;2003", "06", 1, 0);
        faultOf("5005;2003", "--", -1, 1);
        faultOf("5005;2003", "0;", 1, 0);
        faultOf("5005;2003", "001", 2, 0);
        faultOf("5005;2003", "00;", 3, 0);
        faultOf("5005;2003", "00;-", 4, 0);
        faultOf("5005;2003", "00;-1", -1, 2);
        faultOf("5005", "0;0;0;0;0;0;0;0", -1, 8);
        faultOf("5005", "0;0;0;0;0;0;0;0;", 16, 0);
        faultOf("5005", "0;0;0;0;0;0;0;0;0", 16, 0);
        faultOf("5005", "0;0;0;0;0;0;0;0;x", 16, 0);
        RichestPays x = Make.with("5005", "0;1");
        Make.type(x, 0, ";2003");
        Due.is("fault(1) by more PEOPLE", x.fault(1), 1);
        Due.is("count(1) by more PEOPLE", x.count(1), 0);
        Make.retype(x, 0, "2003");
        Due.is("fault(1) by one again", x.fault(1), -1);
        Due.is("count(1) by one again", x.count(1), 2);
    }

    private static void persons() {
        RichestPays x = Make.with("0199;9900;2345", "");
        int[] purses = {1, 99, 23};
        int[] appetites = {99, 0, 45};
        for (int p = 0; p < 3; p++) {
            Due.is("person(" + p + ", 0)", x.person(p, 0), purses[p]);
            Due.is("person(" + p + ", 1)", x.person(p, 1), appetites[p]);
        }
        Due.is("person(3, 0)", x.person(3, 0), RichestPays.BAD);
        Due.is("person(-1, 0)", x.person(-1, 0), RichestPays.BAD);
        Due.is("person(0, 2)", x.person(0, 2), RichestPays.BAD);
        Due.is("person(0, -1)", x.person(0, -1), RichestPays.BAD);
    }

    private static void seats() {
        RichestPays x = Make.with("5005;2003", "05;-3");
        Due.is("sits(0, 0)", x.sits(0, 0), 0);
        Due.is("sits(0, 1)", x.sits(0, 1), 5);
        Due.is("sits(1, 0)", x.sits(1, 0), RichestPays.NONE);
        Due.is("sits(1, 1)", x.sits(1, 1), 3);
        Due.is("sits(2, 0)", x.sits(2, 0), RichestPays.BAD);
        Due.is("sits(-1, 0)", x.sits(-1, 0), RichestPays.BAD);
        Due.is("sits(0, 2)", x.sits(0, 2), RichestPays.BAD);
        Due.is("sits(0, -1)", x.sits(0, -1), RichestPays.BAD);
    }

    private static void homes() {
        RichestPays x = Make.with("5005;2003", "00");
        Due.is("home(0, 20)", x.home(0, 20), 0);
        Due.is("home(0, 99)", x.home(0, 99), 20);
        Due.is("state(0, 0, 0), more at HOME than in the PURSE", x.state(0, 0, 0), 0);
        Due.is("home(0, 30)", x.home(0, 30), 99);
        Due.is("state(0, 0, 0)", x.state(0, 0, 0), 20);
        Due.is("home(5, 7), not there", x.home(5, 7), 0);
        Due.is("home(5, 0)", x.home(5, 0), 7);
        Due.refused(x, "home(6, 0)", () -> x.home(6, 0), RichestPays.BAD);
        Due.refused(x, "home(-1, 0)", () -> x.home(-1, 0), RichestPays.BAD);
        Due.refused(x, "home(0, 100)", () -> x.home(0, 100), RichestPays.BAD);
        Due.refused(x, "home(0, -1)", () -> x.home(0, -1), RichestPays.BAD);
        Make.retype(x, 0, "6005;2003");
        Due.is("home(0, 0) behind other PEOPLE", x.home(0, 0), 30);
    }

    private static void worths() {
        RichestPays x = Make.with("5005;2003", "00");
        Due.is("worth(0, 99)", x.worth(0, 99), 20);
        Due.is("worth(0, 0)", x.worth(0, 0), 99);
        Due.is("worth(5, 3)", x.worth(5, 3), 20);
        Due.is("worth(5, 4)", x.worth(5, 4), 3);
        Due.refused(x, "worth(6, 0)", () -> x.worth(6, 0), RichestPays.BAD);
        Due.refused(x, "worth(-1, 0)", () -> x.worth(-1, 0), RichestPays.BAD);
        Due.refused(x, "worth(0, 100)", () -> x.worth(0, 100), RichestPays.BAD);
        Due.refused(x, "worth(0, -1)", () -> x.worth(0, -1), RichestPays.BAD);
    }

    private static void readHomes() {
        RichestPays x = Make.with("5005;2003", "00");
        Due.is("read(0), LOST", x.read(0), -11);
        Due.is("count(8)", x.count(8), 1);
        Due.is("read(4)", x.read(4), RichestPays.BAD);
        Due.is("read(-1)", x.read(-1), RichestPays.BAD);
        Make.row(x, 0, 3, 0, 99, 100, 5);
        Due.is("read(0) up to 100", x.read(0), 3);
        int[] homes = {3, 0, 99, 0, 0, 0};
        for (int p = 0; p < 6; p++) {
            Due.is("home(" + p + ", 1)", x.home(p, 1), homes[p]);
        }
        Make.row(x, 1, 11, 12, 13, 14, 15, 16, 17, 18);
        Due.is("read(1), six at most", x.read(1), 6);
        for (int p = 0; p < 6; p++) {
            Due.is("home(" + p + ", 2)", x.home(p, 2), 11 + p);
        }
        Make.row(x, 2, -1, 5);
        Due.is("read(2) below 0", x.read(2), 0);
        Due.is("home(0, 2)", x.home(0, 2), 2);
        Make.row(x, 3);
        Due.is("read(3), empty", x.read(3), 0);
    }

    private static void laws() {
        RichestPays x = Make.with("5005;2003", "00");
        Due.is("set(0, 2)", x.set(0, 2), 0);
        Due.is("set(0, 1)", x.set(0, 1), 2);
        Due.is("set(0, 0)", x.set(0, 0), 1);
        Due.is("set(1, 1)", x.set(1, 1), 0);
        Due.is("set(1, 0)", x.set(1, 0), 1);
        Due.refused(x, "set(0, 3)", () -> x.set(0, 3), RichestPays.BAD);
        Due.refused(x, "set(0, -1)", () -> x.set(0, -1), RichestPays.BAD);
        Due.refused(x, "set(1, 2)", () -> x.set(1, 2), RichestPays.BAD);
        Due.refused(x, "set(1, -1)", () -> x.set(1, -1), RichestPays.BAD);
        Due.refused(x, "set(2, 0)", () -> x.set(2, 0), RichestPays.BAD);
        Due.refused(x, "set(-1, 0)", () -> x.set(-1, 0), RichestPays.BAD);
    }
}
