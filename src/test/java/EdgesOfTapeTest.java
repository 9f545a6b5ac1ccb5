/** Promises 16 to 19, a sentence at a time: the tape, byte by byte, and what a contract may be. */
public final class EdgesOfTapeTest {
    private static final int MIN = Integer.MIN_VALUE;
    private static final int MAX = Integer.MAX_VALUE;
    private static final String LETTERS = "bkng";
    private static final String SIGNS = "=<>";
    private static final String DIGITS = "0123456789";

    public static void main(String[] args) {
        feedNothing();
        feedTwenty();
        feedHighestFirst();
        feedLeavesOutNoughts();
        feedHighBytes();
        feedTwoHundred();
        feedMore();
        feedMoreLeavesAllAsItWas();
        endBounds();
        endOfNothing();
        endKeepsTheFirst();
        faultOfNone();
        faultOfNoClauses();
        faultAtEveryByte();
        faultOfDigits();
        faultOfBlanks();
        faultBehindMinus();
        faultBetweenClauses();
        faultEndsTooEarly();
        faultIsTheFirst();
        faultOfAFullTape();
        faultChangesNothing();
        contractNoSuchMaker();
        contractFault();
        contractEmptiesTheTape();
        contractWithoutClauses();
        contractAgain();
        Check.end();
    }

    private static FleetStores fed(String text) {
        FleetStores x = new FleetStores();
        Check.feed(x, text);
        return x;
    }

    private static String many(String text, int times) {
        return text.repeat(times);
    }

    private static void feedNothing() {
        Check.sentence("16: bytes of 0 are left out (all of them)");
        FleetStores x = new FleetStores();
        Check.due("to an empty tape", x.feed(0, 0, 0, 0, 0), 0);
        Check.due("count", x.count(7), 0);
        x.feed('b', 0, 0, 0, 0);
        Check.due("to one of a byte", x.feed(0, 0, 0, 0, 0), 1);
    }

    private static void feedTwenty() {
        Check.sentence("16: Twenty bytes more come to the TAPE: how many it has");
        FleetStores x = new FleetStores();
        for (int i = 1; i <= 10; i++) {
            Check.due("feed " + i, x.feed(-1, MAX, 0x01010101, 0x20202020, 0x80808080), 20 * i);
            Check.due("count", x.count(7), 20 * i);
        }
    }

    private static void feedHighestFirst() {
        Check.sentence("16: of each number the highest first");
        FleetStores x = new FleetStores();
        Check.due("b=12:345 < in five numbers", x.feed(0x623D3132, 0x3A333435, 0x3B6B3E33, 0x3A2D3738, 0x393B673C), 20);
        Check.feed(x, "1:1");
        Check.due("b=12:345;k>3:-789;g<1:1", x.fault(), -1);
        x.contract(0);
        x.buy(0, 0, 0, 12, 7, 1000);
        Check.due("draw", x.draw(0, 12, 0), 12);
        Check.due("due", x.due(0), 1000 + 345 - 789 + 1);
    }

    private static void feedLeavesOutNoughts() {
        Check.sentence("16: bytes of 0 are left out (wherever they stand)");
        FleetStores x = new FleetStores();
        Check.due("one in each place", x.feed(0x62000000, 0x003D0000, 0x00003100, 0x0000003A, 0x00320000), 5);
        Check.due("b=1:2", x.fault(), -1);
        Check.due("between others", x.feed(0x3B006B00, 0x003D0031, 0x3A000033, 0, 0), 11);
        Check.due("b=1:2;k=1:3", x.fault(), -1);
    }

    private static void feedHighBytes() {
        Check.sentence("16: bytes (1 .. 255)");
        Check.due("MIN has one, 128", new FleetStores().feed(MIN, 0, 0, 0, 0), 1);
        Check.due("-1 has four", new FleetStores().feed(0, -1, 0, 0, 0), 4);
        Check.due("MAX has four", new FleetStores().feed(0, 0, MAX, 0, 0), 4);
        Check.due("-256 has three", new FleetStores().feed(0, 0, 0, -256, 0), 3);
        Check.due("1 has one", new FleetStores().feed(0, 0, 0, 0, 1), 1);
        FleetStores x = fed("b=1:2");
        x.feed(0xA0000000, 0, 0, 0, 0);
        Check.due("160 is no blank", x.fault(), 5);
    }

    private static void feedTwoHundred() {
        Check.sentence("16: NONE: more than 200 (200 are not)");
        FleetStores x = fed(many(" ", 199));
        Check.due("199", x.count(7), 199);
        Check.due("the 200th", x.feed(0, 0, 0x00200000, 0, 0), 200);
        Check.due("and none", x.feed(0, 0, 0, 0, 0), 200);
        Check.yes("it is a contract of blanks", x.contract(0));
    }

    private static void feedMore() {
        Check.sentence("16: NONE: more than 200");
        FleetStores x = fed(many(" ", 200));
        Check.due("one more", x.feed(0, 0, 0, 0, 1), -1);
        Check.due("twenty more", x.feed(-1, -1, -1, -1, -1), -1);
        x.end(181);
        Check.due("twenty to 181", x.feed(-1, -1, -1, -1, -1), -1);
        Check.due("nineteen to 181", x.feed(-1, -1, -1, -1, 0x01010100), 200);
        x.end(180);
        Check.due("twenty to 180", x.feed(-1, -1, -1, -1, -1), 200);
    }

    private static void feedMoreLeavesAllAsItWas() {
        Check.sentence("16: NONE (and none of them comes)");
        FleetStores x = fed(many(" ", 195) + "b=1:");
        Check.due("two to 199", x.feed(0x32200000, 0, 0, 0, 0), -1);
        Check.due("199 still", x.count(7), 199);
        Check.due("which end too early", x.fault(), 199);
        Check.due("one to 199", x.feed(0x33000000, 0, 0, 0, 0), 200);
        x.contract(0);
        x.buy(0, 0, 0, 1, 7, 0);
        x.draw(0, 1, 0);
        Check.due("b=1:3", x.due(0), 3);
    }

    private static void endBounds() {
        Check.sentence("17: False: n");
        FleetStores x = fed("b=1:2");
        for (int n : new int[] {MIN, -1, 6, 200, 201, MAX}) {
            Check.no("end(" + n + ")", x.end(n));
            Check.due("all stay", x.count(7), 5);
        }
        Check.yes("end(5)", x.end(5));
        Check.due("all stay", x.count(7), 5);
        Check.yes("end(4)", x.end(4));
        Check.due("four", x.count(7), 4);
        Check.no("end(5) then", x.end(5));
        Check.yes("end(0)", x.end(0));
        Check.due("none", x.count(7), 0);
    }

    private static void endOfNothing() {
        Check.sentence("17: False: n (of an empty TAPE)");
        FleetStores x = new FleetStores();
        Check.yes("end(0)", x.end(0));
        Check.no("end(1)", x.end(1));
        Check.no("end(-1)", x.end(-1));
        Check.due("count", x.count(7), 0);
    }

    private static void endKeepsTheFirst() {
        Check.sentence("17: The TAPE has its first n bytes alone");
        FleetStores x = fed("b=1:2;x");
        Check.due("fault", x.fault(), 6);
        x.end(6);
        Check.due("ends too early", x.fault(), 6);
        Check.due("what comes is behind them", Check.feed(x, "k=1:4"), 11);
        Check.due("b=1:2;k=1:4", x.fault(), -1);
        x.end(5);
        Check.due("b=1:2", x.fault(), -1);
        x.contract(0);
        x.buy(0, 0, 0, 1, 7, 0);
        x.draw(0, 1, 0);
        Check.due("the first clause alone", x.due(0), 2);
    }

    private static void faultIs(String text, int want) {
        Check.due("fault of '" + text + "'", fed(text).fault(), want);
    }

    private static void faultOfNone() {
        Check.sentence("18: NONE");
        for (char letter : LETTERS.toCharArray()) {
            for (char sign : SIGNS.toCharArray()) {
                faultIs("" + letter + sign + "0:0", -1);
                faultIs("" + letter + sign + "99999:-99999", -1);
            }
        }
    }

    private static void faultOfNoClauses() {
        Check.sentence("CONTRACTS: (none: no bytes but blanks)");
        faultIs("", -1);
        faultIs(" ", -1);
        faultIs(many(" ", 200), -1);
        faultIs("   ;", 3);
        faultIs(";", 0);
    }

    /** Behind a text that can go on, every byte from 1 to 255: those that may stand there, and no others. */
    private static void goesOnWith(String text, String allowed, boolean whole) {
        Check.due("'" + text + "' ends too early", fed(text).fault(), whole ? -1 : text.length());
        for (int c = 1; c < 256; c++) {
            int fault = fed(text + (char) c).fault();
            boolean goesOn = fault == -1 || fault == text.length() + 1;
            Check.due("'" + text + "' goes on with byte " + c, goesOn ? 1 : 0, allowed.indexOf(c) < 0 ? 0 : 1);
            if (!goesOn) {
                Check.due("its fault", fault, text.length());
            }
        }
    }

    private static void faultAtEveryByte() {
        Check.sentence("FAULT: the first byte at which no such can go on");
        goesOnWith("", LETTERS + " ", true);
        goesOnWith(" ", LETTERS + " ", true);
        goesOnWith("b", SIGNS + " ", false);
        goesOnWith("k ", SIGNS + " ", false);
        goesOnWith("n<", DIGITS + " ", false);
        goesOnWith("g> ", DIGITS + " ", false);
        goesOnWith("b=1", DIGITS + ": ", false);
        goesOnWith("b=1234", DIGITS + ": ", false);
        goesOnWith("b=12345", ": ", false);
        goesOnWith("b=1 ", ": ", false);
        goesOnWith("b=1:", DIGITS + "- ", false);
        goesOnWith("b=1: ", DIGITS + "- ", false);
        goesOnWith("b=1:-", DIGITS, false);
        goesOnWith("b=1:2", DIGITS + "; ", true);
        goesOnWith("b=1:-2", DIGITS + "; ", true);
        goesOnWith("b=1:1234", DIGITS + "; ", true);
        goesOnWith("b=1:12345", "; ", true);
        goesOnWith("b=1:-12345", "; ", true);
        goesOnWith("b=1:2 ", "; ", true);
        goesOnWith("b=1:2;", LETTERS + " ", false);
        goesOnWith("b=1:2; ", LETTERS + " ", false);
        goesOnWith("b=1:2;k", SIGNS + " ", false);
    }

    private static void faultOfDigits() {
        Check.sentence("CONTRACTS: (1 to 5 digits)");
        faultIs("b=:1", 2);
        faultIs("b=1:1", -1);
        faultIs("b=00001:1", -1);
        faultIs("b=000001:1", 7);
        faultIs("b=1:", 4);
        faultIs("b=1:;", 4);
        faultIs("b=1:00001", -1);
        faultIs("b=1:000001", 9);
        faultIs("b=1:-00001", -1);
        faultIs("b=1:-000001", 10);
    }

    private static void faultOfBlanks() {
        Check.sentence("CONTRACTS: Blanks (32) stand where they like, but not within numbers");
        faultIs("   b   =   1   :   -2   ;   k   <   3   :   4   ", -1);
        faultIs("b=1 2:3", 4);
        faultIs("b=1:2 3", 6);
        faultIs("b=1:-2 3", 7);
        faultIs("b=1:2\t", 5);
        faultIs("\nb=1:2", 0);
    }

    private static void faultBehindMinus() {
        Check.sentence("CONTRACTS: Blanks not behind -");
        faultIs("b=1:- 2", 5);
        faultIs("b=1: -2", -1);
        faultIs("b=1:--2", 5);
        faultIs("b=1:-", 5);
        faultIs("b=1:-;", 5);
        faultIs("b=-1:2", 2);
    }

    private static void faultBetweenClauses() {
        Check.sentence("CONTRACTS: CLAUSES with ; between");
        faultIs("b=1:2;k=1:2", -1);
        faultIs("b=1:2 ; k=1:2", -1);
        faultIs(";b=1:2", 0);
        faultIs("b=1:2;;k=1:2", 6);
        faultIs("b=1:2; ;k=1:2", 7);
        faultIs("b=1:2;", 6);
        faultIs("b=1:2;   ", 9);
        faultIs("b=1:2 k=1:2", 6);
        faultIs("b=1:2k=1:2", 5);
    }

    private static void faultEndsTooEarly() {
        Check.sentence("FAULT: (the length, if they end too early)");
        String text = " b < 12 : -34 ; k = 5 : 6";
        for (int n = 0; n <= text.length(); n++) {
            String start = text.substring(0, n);
            boolean whole = n <= 1 || (n >= 12 && n <= 14) || n == 25;
            faultIs(start, whole ? -1 : n);
        }
    }

    private static void faultIsTheFirst() {
        Check.sentence("FAULT: the first byte (of several)");
        faultIs("b=1:2;x=1:y", 6);
        faultIs("b=a:b", 2);
        faultIs("xx", 0);
        faultIs("b=123456:1234567", 7);
    }

    private static void faultOfAFullTape() {
        Check.sentence("FAULT: (of 200 bytes)");
        faultIs(many("b=1:2;", 33) + "b=", 200);
        faultIs(many("b=1:2;", 33) + "b;", 199);
        faultIs(many("b=1:2;", 32) + "b=1:2345", -1);
        faultIs(many("b=1:2;", 32) + "b=1:234;", 200);
        faultIs(many("b=1:2;", 32) + "b=1:2 ;;", 199);
        faultIs("b" + many(" ", 199), 200);
        faultIs(many(" ", 199) + "x", 199);
    }

    private static void faultChangesNothing() {
        Check.sentence("18: The FAULT of the TAPE (and no more)");
        FleetStores x = new FleetStores();
        Check.contract(x, 0, "k=0:5");
        Check.feed(x, "k=0:9;k");
        Check.due("fault", x.fault(), 7);
        Check.due("again", x.fault(), 7);
        Check.due("the tape stays", x.count(7), 7);
        x.end(5);
        Check.due("none", x.fault(), -1);
        x.buy(0, 0, 0, 1, 0, 0);
        x.draw(0, 0, 0);
        Check.due("no contract was made", x.due(0), 5);
    }

    private static void contractNoSuchMaker() {
        Check.sentence("19: False: no such one");
        FleetStores x = fed("k=0:5");
        for (int maker : new int[] {MIN, -1, 10, MAX}) {
            Check.no("contract(" + maker + ")", x.contract(maker));
            Check.due("the tape stays", x.count(7), 5);
        }
        Check.yes("contract(9)", x.contract(9));
        Check.feed(x, "k=0:6");
        Check.yes("contract(0)", x.contract(0));
        for (int maker = 0; maker < 10; maker++) {
            x.buy(0, maker, 0, 1, 0, 0);
            x.draw(maker, 0, 0);
            Check.due("due to " + maker, x.due(maker), maker == 9 ? 5 : maker == 0 ? 6 : 0);
        }
    }

    private static void contractFault() {
        Check.sentence("19: False: a FAULT");
        FleetStores x = new FleetStores();
        Check.contract(x, 3, "k=0:5");
        for (String text : new String[] {"k", "k=0:7;", ";", "k=0:7;k=0:", "k=0:7x", "k=0:123456"}) {
            Check.no("'" + text + "'", Check.contract(x, 3, text));
            Check.due("the tape stays", x.count(7), text.length());
        }
        x.buy(0, 3, 0, 1, 0, 0);
        x.draw(0, 0, 0);
        Check.due("the contract is as it was", x.due(0), 5);
    }

    private static void contractEmptiesTheTape() {
        Check.sentence("19: The TAPE (empty then)");
        FleetStores x = fed("k=0:5");
        Check.yes("contract(3)", x.contract(3));
        Check.due("count", x.count(7), 0);
        Check.due("fault", x.fault(), -1);
        Check.no("end(1)", x.end(1));
        Check.due("what comes then is the first", Check.feed(x, "x"), 1);
        Check.due("its fault", x.fault(), 0);
    }

    private static void contractWithoutClauses() {
        Check.sentence("19: The TAPE is the CONTRACT (without CLAUSES)");
        for (String text : new String[] {"", " ", many(" ", 200)}) {
            FleetStores x = new FleetStores();
            Check.contract(x, 3, "k=0:5");
            Check.yes("no clauses", Check.contract(x, 3, text));
            Check.due("count", x.count(7), 0);
            x.buy(0, 3, 0, 1, 0, 40);
            x.draw(0, 0, 0);
            Check.due("the price alone", x.due(0), 40);
        }
    }

    private static void contractAgain() {
        Check.sentence("19: The TAPE is the CONTRACT (and not what was ahead)");
        FleetStores x = new FleetStores();
        for (int i = 0; i < 30; i++) {
            Check.yes("contract", Check.contract(x, i % 10, "k=0:" + i + (i < 10 ? ";k=0:500" : "")));
        }
        for (int maker = 0; maker < 10; maker++) {
            x.buy(0, maker, 0, 1, 0, 0);
            x.draw(maker, 0, 0);
            Check.due("due to " + maker, x.due(maker), 20 + maker);
        }
    }
}
