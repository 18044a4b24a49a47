/**
 * Each sentence on the texts that names a boundary has a test of its own: Terms 1 (PEOPLE,
 * ROUNDS, FAULT) and promises 1 to 6.
 */
public final class EdgesOfTextsTest {
    private static final int BAD = RichestPays.BAD, FULL = RichestPays.FULL, NONE = RichestPays.NONE;
    private static final String SIX = "0102;0304;0506;0708;0910;1112";

    public static void main(String[] args) {
        newTextsAreEmpty();
        newSheetsAreLost();
        peopleUpToThirtyBytes();
        roundsUpToSixtyBytes();
        byteFrom0To255();
        byteComesBehind();
        noSuchText();
        badAheadOfFull();
        wipeTellsHowMany();
        wipedRoundsAreNone();
        wipeOneTextAlone();
        typeAgainBehindWipe();
        fourFiguresForEach();
        semicolonBetweenPeople();
        sixPeopleAtMost();
        twoFiguresEach();
        figureOfTableOrAway();
        semicolonBetweenRounds();
        eightRoundsAtMost();
        faultCannotGoOn();
        emptyIsWell();
        notEndedItsEnd();
        firstByteOfOneTooMany();
        byteMoreThanPeople();
        byteFewerThanPeople();
        peopleAsTheyAreTold();
        noneWithFaultOfPeople();
        faultAsIfPeopleWereEmpty();
        faultAsIfRoundsWereEmpty();
        personEdges();
        sitsEdges();
        Due.end("EdgesOfTextsTest");
    }

    private static void faults(String people, String rounds, int ofPeople, int ofRounds) {
        RichestPays x = Make.with(people, rounds);
        String told = " of \"" + people + "\" / \"" + rounds + "\"";
        Due.is("fault(0)" + told, x.fault(0), ofPeople);
        Due.is("fault(1)" + told, x.fault(1), ofRounds);
    }

    private static void newTextsAreEmpty() {
        Due.sentence("1: Empty texts");
        for (int text = 0; text < 2; text++) {
            RichestPays x = new RichestPays();
            Due.is("count()", x.count(2 + text), 0);
            Due.is("fault()", x.fault(text), NONE);
            Due.is("wipe()", x.wipe(text), 0);
            Due.is("type()", x.type(text, '1'), 1);
        }
        RichestPays x = new RichestPays();
        Due.is("count(0)", x.count(0), 0);
        Due.is("count(1)", x.count(1), 0);
        Due.is("person(0, 0)", x.person(0, 0), BAD);
        Due.is("sits(0, 0)", x.sits(0, 0), BAD);
    }

    private static void newSheetsAreLost() {
        Due.sentence("1: all SHEETS are LOST");
        for (int s = 0; s < 4; s++) {
            RichestPays x = new RichestPays();
            Due.is("read(" + s + ")", x.read(s), -11);
            Due.is("lose(" + s + ")", x.lose(s), -11);
            Due.is("put(" + s + ", 0, 0, 0)", x.put(s, 0, 0, 0), -11);
            Due.is("get(" + s + ", 0, 0)", x.get(s, 0, 0), Integer.MIN_VALUE);
            Due.is("copy(" + s + ", ..)", x.copy(s, 0, s, 0, 0), -11);
            Due.is("write(0, " + s + ")", x.write(0, s), -11);
        }
    }

    private static void upTo(int text, int most, int b) {
        RichestPays x = new RichestPays();
        for (int i = 1; i <= most; i++) {
            Due.is("type() number " + i, x.type(text, b), i);
        }
        Due.refused(x, "type() beyond", () -> x.type(text, b), FULL);
        Due.refused(x, "type() beyond once more", () -> x.type(text, 0), FULL);
        Due.is("count()", x.count(2 + text), most);
        Due.is("type() into the other", x.type(1 - text, b), 1);
        Due.is("wipe()", x.wipe(text), most);
    }

    private static void peopleUpToThirtyBytes() {
        Due.sentence("Terms 1: PEOPLE (text 0) are a text of up to 30 bytes; 2: FULL");
        upTo(0, 30, '0');
        upTo(0, 30, 255);
    }

    private static void roundsUpToSixtyBytes() {
        Due.sentence("Terms 1: ROUNDS (text 1) are a text of up to 60 bytes; 2: FULL");
        upTo(1, 60, '0');
        upTo(1, 60, 0);
        // 8 ROUNDS of six PEOPLE are the longest that are well: 55 bytes
        String round = "012345";
        String seven = (round + ";").repeat(7);
        RichestPays x = Make.with(SIX, seven + round);
        Due.is("fault(1)", x.fault(1), NONE);
        Due.is("count(3)", x.count(3), 55);
        Due.is("sits(7, 5)", x.sits(7, 5), 5);
    }

    private static void byteFrom0To255() {
        Due.sentence("2: A byte (0 to 255); BAD");
        for (int text = 0; text < 2; text++) {
            int t = text;
            RichestPays x = new RichestPays();
            Due.is("type(.., 0)", x.type(text, 0), 1);
            Due.is("type(.., 255)", x.type(text, 255), 2);
            int[] wrong = {-1, 256, '5' + 256, '5' - 256, 1 << 16 | '5',
                Integer.MIN_VALUE, Integer.MIN_VALUE + '5', Integer.MAX_VALUE};
            for (int b : wrong) {
                Due.refused(x, "type(" + t + ", " + b + ")", () -> x.type(t, b), BAD);
            }
            Due.is("count()", x.count(2 + text), 2);
        }
    }

    private static void byteComesBehind() {
        Due.sentence("2: comes behind a text: how many");
        RichestPays x = Make.with("1234", "5");
        Due.is("person(0, 0)", x.person(0, 0), 12);
        Due.is("person(0, 1)", x.person(0, 1), 34);
        Due.is("type(0, ';')", x.type(0, ';'), 5);
        Due.is("type(1, ';')", x.type(1, ';'), 2);
        Due.is("count(2)", x.count(2), 5);
        Due.is("count(3)", x.count(3), 2);
    }

    private static void noSuchText() {
        Due.sentence("2, 3, 4: BAD, no such text");
        RichestPays x = Make.with("5005", "0");
        for (int text : new int[] {-1, 2, Integer.MIN_VALUE, Integer.MAX_VALUE}) {
            Due.refused(x, "type(" + text + ", 48)", () -> x.type(text, 48), BAD);
            Due.refused(x, "wipe(" + text + ")", () -> x.wipe(text), BAD);
            Due.refused(x, "fault(" + text + ")", () -> x.fault(text), BAD);
        }
    }

    private static void badAheadOfFull() {
        Due.sentence("2: BAD; FULL, the first that fits");
        RichestPays x = Make.with("0".repeat(30), "0".repeat(60));
        for (int text = 0; text < 2; text++) {
            Due.is("type(" + text + ", 48)", x.type(text, 48), FULL);
            Due.is("type(" + text + ", -1)", x.type(text, -1), BAD);
            Due.is("type(" + text + ", 256)", x.type(text, 256), BAD);
        }
        Due.is("type(2, 48)", x.type(2, 48), BAD);
    }

    private static void wipeTellsHowMany() {
        Due.sentence("3: how many bytes it had");
        for (int text = 0; text < 2; text++) {
            for (int n : new int[] {0, 1, 30, 30 + 30 * text}) {
                RichestPays x = new RichestPays();
                Make.type(x, text, "x".repeat(n));
                Due.is("wipe() of " + n, x.wipe(text), n);
                Due.is("wipe() again", x.wipe(text), 0);
                Due.is("count()", x.count(2 + text), 0);
                Due.is("fault()", x.fault(text), NONE);
            }
        }
    }

    private static void wipedRoundsAreNone() {
        Due.sentence("3: A text is empty: ROUNDS are none, and none of them is left over");
        RichestPays x = new RichestPays();
        x.wipe(1);
        Due.is("count(1) of an empty text", x.count(1), 0);
        x.wipe(0);
        Due.is("count(1) without PEOPLE", x.count(1), 0);
        Due.is("sits(0, 0)", x.sits(0, 0), BAD);
        String five = "555555;555555;555555;555555;555555;555555;555555;555555";
        Make.type(x, 0, SIX);
        Make.type(x, 1, five);
        x.wipe(1);
        Due.is("count(1) with PEOPLE", x.count(1), 0);
        Due.is("count(7) with PEOPLE", x.count(7), 0);
        Make.type(x, 1, five.replace("555555", "000000"));
        Due.is("count(7)", x.count(7), 48);
        for (int round = 0; round < 8; round++) {
            Due.is("payer(" + round + ", 0)", x.payer(round, 0) >= 0 ? 1 : 0, 1);
            Due.is("payer(" + round + ", 5)", x.payer(round, 5), NONE);
        }
    }

    private static void wipeOneTextAlone() {
        Due.sentence("3: A text is empty");
        RichestPays x = Make.with("5005", "0;1");
        x.wipe(1);
        Due.is("count(0)", x.count(0), 1);
        Due.is("count(1)", x.count(1), 0);
        RichestPays y = Make.with("5005", "0;1");
        y.wipe(0);
        Due.is("count(0)", y.count(0), 0);
        Due.is("count(3)", y.count(3), 3);
    }

    private static void typeAgainBehindWipe() {
        Due.sentence("3: A text is empty, and may be typed anew");
        RichestPays x = Make.with("9".repeat(30), "5".repeat(60));
        x.wipe(0);
        x.wipe(1);
        Make.type(x, 0, "1002");
        Make.type(x, 1, "3");
        Due.is("person(0, 0)", x.person(0, 0), 10);
        Due.is("sits(0, 0)", x.sits(0, 0), 3);
        Due.is("count(0)", x.count(0), 1);
    }

    private static void fourFiguresForEach() {
        Due.sentence("Terms 1: four figures for each");
        faults("0000", "", NONE, NONE);
        faults("9999", "", NONE, NONE);
        faults("00", "", 2, NONE);
        faults("000", "", 3, NONE);
        faults("00000", "", 4, NONE);
        for (int place = 0; place < 4; place++) {
            for (char sign : new char[] {'/', ':', '-', ';', ' ', 0, 255, '0' + 128}) {
                String bytes = "0000".substring(0, place) + sign + "0000".substring(place + 1);
                faults(bytes, "", place, NONE);
                faults("0000;" + bytes, "", 5 + place, NONE);
            }
        }
    }

    private static void semicolonBetweenPeople() {
        Due.sentence("Terms 1: PEOPLE with ; between them");
        faults("0000;0000", "", NONE, NONE);
        faults(";0000", "", 0, NONE);
        faults("0000;;0000", "", 5, NONE);
        faults("0000:0000", "", 4, NONE);
        faults("0000,0000", "", 4, NONE);
        faults("0000 0000", "", 4, NONE);
    }

    private static void sixPeopleAtMost() {
        Due.sentence("Terms 1: PEOPLE, 6 at most (0 on)");
        for (int n = 0; n <= 6; n++) {
            RichestPays x = Make.with(SIX.substring(0, Math.max(0, 5 * n - 1)), "");
            Due.is("count(0)", x.count(0), n);
            Due.is("fault(0)", x.fault(0), NONE);
            for (int p = 0; p < n; p++) {
                Due.is("person(" + p + ", 0)", x.person(p, 0), 2 * p + 1);
                Due.is("person(" + p + ", 1)", x.person(p, 1), 2 * p + 2);
            }
            Due.is("person(" + n + ", 0)", x.person(n, 0), BAD);
        }
    }

    private static void twoFiguresEach() {
        Due.sentence("Terms 1: PURSE (two figures), APPETITE (two figures)");
        int[][] sums = {{0, 0}, {0, 99}, {99, 0}, {99, 99}, {9, 90}, {90, 9}, {1, 10}};
        for (int[] s : sums) {
            RichestPays x = Make.with(String.format("%02d%02d", s[0], s[1]), "");
            Due.is("person(0, 0)", x.person(0, 0), s[0]);
            Due.is("person(0, 1)", x.person(0, 1), s[1]);
        }
    }

    private static void figureOfTableOrAway() {
        Due.sentence("Terms 1: the figure of a TABLE (0 to 5), or - (one stays away)");
        for (int table = 0; table <= 5; table++) {
            RichestPays x = Make.with("5005", "" + table);
            Due.is("fault(1)", x.fault(1), NONE);
            Due.is("sits(0, 0)", x.sits(0, 0), table);
        }
        RichestPays x = Make.with("5005", "-");
        Due.is("fault(1)", x.fault(1), NONE);
        Due.is("sits(0, 0)", x.sits(0, 0), NONE);
        for (char sign : new char[] {'6', '9', '/', ',', '.', '_', 'a', 0, 255, '0' + 128}) {
            faults("5005", "" + sign, NONE, 0);
            faults("5005;5005", "0" + sign, NONE, 1);
            faults("5005;5005", "00;-" + sign, NONE, 4);
        }
    }

    private static void semicolonBetweenRounds() {
        Due.sentence("Terms 1: ROUNDS with ; between them");
        faults("5005", "0;0", NONE, NONE);
        faults("5005", ";0", NONE, 0);
        faults("5005", "0;;0", NONE, 2);
        faults("5005", "0:0", NONE, 1);
        faults("5005", "0-0", NONE, 1);
    }

    private static void eightRoundsAtMost() {
        Due.sentence("Terms 1: ROUNDS, 8 at most (0 on)");
        for (int n = 0; n <= 8; n++) {
            String rounds = "01;12;23;34;45;50;-0;0-".substring(0, Math.max(0, 3 * n - 1));
            RichestPays x = Make.with("5005;5005", rounds);
            Due.is("count(1)", x.count(1), n);
            Due.is("fault(1)", x.fault(1), NONE);
            Due.is("sits(" + n + ", 0)", x.sits(n, 0), BAD);
            if (n > 0) {
                Due.is("sits(" + (n - 1) + ", 0)", x.sits(n - 1, 0), n == 7 ? NONE : (n - 1) % 7);
            }
        }
    }

    private static void faultCannotGoOn() {
        Due.sentence("Terms 1: The FAULT is the place of the first byte with which it cannot go on");
        faults("x", "", 0, NONE);
        faults("5x0x", "", 1, NONE);
        faults("5005;500;", "", 8, NONE);
        faults(SIX.substring(0, 28) + "x", "", 28, NONE);
        faults("5005;5005", "x0", NONE, 0);
        faults("5005;5005", "0xx", NONE, 1);
        faults("5005;5005", "00x", NONE, 2);
        faults("5005;5005", "00;00;6-", NONE, 6);
    }

    private static void emptyIsWell() {
        Due.sentence("Terms 1: (an empty one is well");
        faults("", "", NONE, NONE);
        faults("5005", "", NONE, NONE);
        faults("x", "", 0, NONE);
    }

    private static void notEndedItsEnd() {
        Due.sentence("Terms 1: of one that is not ended, its end");
        for (int n = 1; n < SIX.length(); n++) {
            faults(SIX.substring(0, n), "", n % 5 == 4 ? NONE : n, NONE);
        }
        for (int n = 1; n <= 8; n++) {
            faults("5005;5005;5005", "012;345;".substring(0, n), NONE, n % 4 == 3 ? NONE : n);
        }
    }

    private static void firstByteOfOneTooMany() {
        Due.sentence("Terms 1: of the first byte of one too many");
        // of PEOPLE no byte of a seventh has room; what ends behind a ; is not ended
        faults(SIX + ";", "", 30, NONE);
        faults(SIX + "1", "", 29, NONE);
        String eight = "0;0;0;0;0;0;0;0";
        faults("5005", eight, NONE, NONE);
        faults("5005", eight + ";", NONE, 16);
        for (String ninth : new String[] {"0", "-", "6", ";", "x", "0;", "0;0"}) {
            faults("5005", eight + ";" + ninth, NONE, 16);
        }
        faults("5005", eight + "0", NONE, 15);
        String six = ("000000;").repeat(8);
        faults(SIX, six, NONE, 56);
        faults(SIX, six + "0000", NONE, 56);
        faults(SIX, six + "6666", NONE, 56);
    }

    private static void byteMoreThanPeople() {
        Due.sentence("Terms 1: and of ROUNDS of a byte more than there are PEOPLE");
        for (int n = 1; n <= 6; n++) {
            String people = SIX.substring(0, 5 * n - 1);
            String round = "-05051".substring(0, n);
            faults(people, round, NONE, NONE);
            faults(people, round + "0", NONE, n);
            faults(people, round + "-", NONE, n);
            faults(people, round + ";" + round + "0", NONE, 2 * n + 1);
        }
    }

    private static void byteFewerThanPeople() {
        Due.sentence("Terms 1: for each of the PEOPLE the figure of a TABLE, or -");
        faults("5005;5005;5005", "01", NONE, 2);
        faults("5005;5005;5005", "01;012", NONE, 2);
        faults("5005;5005;5005", "012;01;012", NONE, 6);
        faults("5005;5005;5005", "012;01", NONE, 6);
    }

    private static void peopleAsTheyAreTold() {
        Due.sentence("Terms 1: (by PEOPLE as they are told");
        RichestPays x = Make.with("", "01;10");
        Due.is("fault(1) ahead of PEOPLE", x.fault(1), 0);
        Make.type(x, 0, "5005;");
        Due.is("fault(1) ahead of the second", x.fault(1), 0);
        Make.type(x, 0, "2003");
        Due.is("fault(1) of two", x.fault(1), NONE);
        Due.is("count(1) of two", x.count(1), 2);
        Due.is("sits(1, 0) of two", x.sits(1, 0), 1);
        Make.type(x, 0, ";2003");
        Due.is("fault(1) of three", x.fault(1), 2);
        Due.is("count(1) of three", x.count(1), 0);
        Make.retype(x, 0, "5005");
        Due.is("fault(1) of one", x.fault(1), 1);
        x.wipe(0);
        Due.is("fault(1) of none", x.fault(1), 0);
    }

    private static void noneWithFaultOfPeople() {
        Due.sentence("Terms 1: with a FAULT of PEOPLE there are none: then any byte of ROUNDS is one)");
        for (String rounds : new String[] {"0", "-", ";", "x", "00", "0;0"}) {
            faults("", rounds, NONE, 0);
            faults("5005;", rounds, 5, 0);
            faults("5005;2003x", rounds, 9, 0);
            faults("5", rounds, 1, 0);
        }
        faults("5", "", 1, NONE);
    }

    private static void faultAsIfPeopleWereEmpty() {
        Due.sentence("Terms 1: With a FAULT it is as if it was empty (PEOPLE)");
        RichestPays x = Make.with("5005;2003", "00");
        x.seen(0, 0, 0);
        x.type(0, 'x');
        int[] due = {0, 0, 10, 2, 1, 0, 0, 0, 0};
        for (int what = 0; what < due.length; what++) {
            Due.is("count(" + what + ")", x.count(what), due[what]);
        }
        Due.is("person(0, 0)", x.person(0, 0), BAD);
        Due.is("sits(0, 0)", x.sits(0, 0), BAD);
        Due.is("state(0, 0, 0)", x.state(0, 0, 0), BAD);
        Due.is("all(0, 0)", x.all(0, 0), 0);
        Due.is("all(1, 0)", x.all(1, 0), BAD);
        Due.is("payer(0, 0)", x.payer(0, 0), BAD);
        Due.is("beggars()", x.beggars(), 0);
        Due.is("best(0, 0, 0)", x.best(0, 0, 0), -100002);
        Due.is("rest(-1)", x.rest(-1), 1);
        Due.is("rest(0)", x.rest(0), BAD);
        Due.is("down(0, 0)", x.down(0, 0), BAD);
        Due.is("alike()", x.alike(), 0);
        Due.is("dark(0, 0, 1)", x.dark(0, 0, 1), BAD);
        Due.is("unlike()", x.unlike(), 1);
        Due.is("hid(0)", x.hid(0), BAD);
        Due.is("type(0, ..), as the bytes are there", x.type(0, 'x'), 11);
    }

    private static void faultAsIfRoundsWereEmpty() {
        Due.sentence("Terms 1: With a FAULT it is as if it was empty (ROUNDS)");
        RichestPays x = Make.with("5005;2003", "00;");
        x.seen(0, 0, 8);
        int[] due = {2, 0, 9, 3, 1, 70, 70, 0, 0};
        for (int what = 0; what < due.length; what++) {
            Due.is("count(" + what + ")", x.count(what), due[what]);
        }
        Due.is("person(0, 0)", x.person(0, 0), 50);
        Due.is("sits(0, 0)", x.sits(0, 0), BAD);
        Due.is("state(0, 0, 0)", x.state(0, 0, 0), 50);
        Due.is("state(0, 1, 0)", x.state(0, 1, 0), BAD);
        Due.is("payer(0, 0)", x.payer(0, 0), BAD);
        Due.is("beggars()", x.beggars(), 0);
        Due.is("best(0, 0, 0)", x.best(0, 0, 0), -100002);
        Due.is("rest(-1)", x.rest(-1), Make.with("5005;2003", "").rest(NONE));
        Due.is("dark(0, 0, 1)", x.dark(0, 0, 1), BAD);
        Due.is("unlike()", x.unlike(), 1);
        Due.is("hid(0)", x.hid(0), NONE);
        Make.type(x, 1, "00");
        Due.is("unlike() without the FAULT", x.unlike(), 0);
    }

    private static void personEdges() {
        Due.sentence("5: Of one of the PEOPLE: PURSE (what = 0), APPETITE (1). BAD");
        RichestPays x = Make.with("1122;3344", "");
        Due.is("person(0, 0)", x.person(0, 0), 11);
        Due.is("person(0, 1)", x.person(0, 1), 22);
        Due.is("person(1, 0)", x.person(1, 0), 33);
        Due.is("person(1, 1)", x.person(1, 1), 44);
        int most = Integer.MAX_VALUE;
        int least = Integer.MIN_VALUE;
        int[][] wrong = {{-1, 0}, {2, 0}, {5, 0}, {6, 0}, {most, 0}, {least, 0},
            {0, -1}, {0, 2}, {1, 2}, {0, most}, {0, least}};
        for (int[] w : wrong) {
            Due.refused(x, "person(" + w[0] + ", " + w[1] + ")", () -> x.person(w[0], w[1]), BAD);
        }
    }

    private static void sitsEdges() {
        Due.sentence("6: At which TABLE one sits in a ROUND; NONE. BAD");
        RichestPays x = Make.with("1122;3344;5566", "05-;-12");
        int[][] due = {{0, 5, NONE}, {NONE, 1, 2}};
        for (int round = 0; round < 2; round++) {
            for (int p = 0; p < 3; p++) {
                Due.is("sits(" + round + ", " + p + ")", x.sits(round, p), due[round][p]);
            }
        }
        int most = Integer.MAX_VALUE;
        int least = Integer.MIN_VALUE;
        int[][] wrong = {{-1, 0}, {2, 0}, {7, 0}, {8, 0}, {most, 0}, {least, 0},
            {0, -1}, {0, 3}, {1, 3}, {0, 6}, {0, most}, {0, least}};
        for (int[] w : wrong) {
            Due.refused(x, "sits(" + w[0] + ", " + w[1] + ")", () -> x.sits(w[0], w[1]), BAD);
        }
    }
}
